theorem jy_X2_has : jY yX2_has cX2_has 2 (some .boolean) 1 := ⟨by decide +kernel, jq_13_22, jq_3_0⟩
def F_X2_has (N : Nat)  (M : Nat → Nat → Int32) (v1 : Int32) : Option Int32 := (if isB (jIn v1 (0 : Int32) ((M 0 3) - (1 : Int32))) = true then (some (jIn v1 (0 : Int32) ((M 0 3) - (1 : Int32)))) else none)
set_option maxHeartbeats 4000000 in
set_option maxRecDepth 100000 in
theorem k_X2_has (l : Launch) (D : va_G) (G : Nat → ClassId) (a : Nat → Nat) (N : Nat) (M : Nat → Nat → Int32) (v1 : Int32) (r : Int32) (hV : F_X2_has N  M v1 = some r) : pM l yX2_has (jws yX2_has cX2_has 2 (some .boolean)) ({ frames := 1, cells := 0, slots := 0, locals := 22 } : Room) [.ref (a 37), .int v1] D G (wPerf a G M) (some (.int r)) := by
  refine pM_of (by decide +kernel) (Nat.le_of_ble_eq_true rfl) (fun p e s m args below meth c ls C hP hl => ?_)
  have C : Cx p s m args meth c cX2_has 2 RX2 (some .boolean) D G := C
  obtain ⟨hx, hb, hr, hml, hts, hown, hlocks, hK0⟩ := id C
  have hK := hK0.1
  have hl : lv_has ls 2 [(0, .ref (a 37)), (1, .int v1)] := hl
  rw [F_X2_has] at hV
  refine lv_iload_n hx hb dX2_has_0 rfl (lv_at hl 1 rfl) ?_
  refine lv_iconst (v := 0) hx hb dX2_has_1 (by decide) ?_
  refine lv_aload_n hx hb dX2_has_2 rfl (lv_at hl 0 rfl) ?_
  refine va_get (D := D) (ci := 4) (v := .int (M 0 3)) (C := RX2) (T := TX2) (N := 7) hx hb hts ju_X2 hown hK hP 0 rfl rfl 0 (by decide) (hts _ jq_10_2) (fun _ h9 => h9) rfl dX2_has_3 ?_
  refine lv_iconst (v := 1) hx hb dX2_has_6 (by decide) ?_
  refine lv_isub hx hb dX2_has_7 ?_
  refine jSpNI C dX2_has_8 (host := "TheatreSeasons") (kt_X8_isWithin l D G    v1 (0 : Int32) ((M 0 3) - (1 : Int32))) jy_X8_isWithin jn_44 jq_10_20 ⟨rfl, rfl, Nat.le_of_ble_eq_true rfl, Nat.le_of_ble_eq_true rfl⟩ ⟨Nat.le_of_ble_eq_true rfl, Nat.le_of_ble_eq_true rfl⟩ jE  hl (rest := []) rfl (Nat.le_of_ble_eq_true rfl) ?_
  obtain ⟨g2, hV⟩ := jIf hV
  exact pRet C rfl dX2_has_11 (isB_n g2) (Option.some.inj hV)
theorem jy_X2_add : jY yX2_add cX2_add 5 (some .int) 3 := ⟨by decide +kernel, jq_14_16, jq_3_0⟩
def F_X2_add (N : Nat)  (M : Nat → Nat → Int32) (v1 v2 v3 : Int32) : Option (Int32 × (Nat → Nat → Int32)) := (jlet (u1 M 7 (rs 24 (M 7) (M 0 3) v1)) (fun M2 => (jlet (u1 M2 8 (rs 24 (M2 8) (M 0 3) v2)) (fun M4 => (jlet (u1 M4 9 (rs 24 (M4 9) (M 0 3) v3)) (fun M6 => (jlet (u1 M6 10 (rs 24 (M6 10) (M 0 3) (0 : Int32))) (fun M8 => (jlet (u1 M8 11 (rs 24 (M8 11) (M 0 3) (0 : Int32))) (fun M10 => (jlet (u1 M10 12 (rs 24 (M10 12) (M 0 3) (0 : Int32))) (fun M12 => (jlet (stF M12 3 ((M12 0 3) + (1 : Int32))) (fun M13 => (some ((M 0 3), M13))))))))))))))))
set_option maxHeartbeats 4000000 in
set_option maxRecDepth 100000 in
theorem k_X2_add (l : Launch) (D : va_G) (G : Nat → ClassId) (a : Nat → Nat) (N : Nat) (M : Nat → Nat → Int32) (v1 v2 v3 : Int32) (r : (Int32 × (Nat → Nat → Int32))) (hV : F_X2_add N  M v1 v2 v3 = some r) : mM l yX2_add (jws yX2_add cX2_add 5 (some .int)) ({ frames := 1, cells := 0, slots := 0, locals := 22 } : Room) [.ref (a 37), .int v1, .int v2, .int v3] D G (wPerf a G M) (wPerf a G r.2) (some (.int r.1)) := by
  refine mM_of (by decide +kernel) (Nat.le_of_ble_eq_true rfl) (fun p e s m args below meth c ls A C hP hD hA hl => ?_)
  have C : Cx p s m args meth c cX2_add 5 RX2 (some .int) D G := C
  have hS : va_S A s.heap s.heap [] := va_S.rf
  obtain ⟨hx, hb, hr, hml, hts, hown, hlocks, hK0⟩ := id C
  have hK := hK0.1
  have hl : lv_has ls 5 [(0, .ref (a 37)), (1, .int v1), (2, .int v2), (3, .int v3)] := hl
  rw [F_X2_add] at hV
  refine lv_aload_n hx hb dX2_add_0 rfl (lv_at hl 0 rfl) ?_
  refine va_get (D := D) (ci := 4) (v := .int (M 0 3)) (C := RX2) (T := TX2) (N := 7) hx hb hts ju_X2 hown hK hP 0 rfl rfl 0 (by decide) (hts _ jq_10_2) (fun _ h9 => h9) rfl dX2_add_1 ?_
  refine lv_istore (lv' := [(4, .int (M 0 3)), (0, .ref (a 37)), (1, .int v1), (2, .int v2), (3, .int v3)]) hx hb dX2_add_4 hl (by decide) rfl (fun ls hl => ?_)
  refine lv_aload_n hx hb dX2_add_6 rfl (lv_at hl 1 rfl) ?_
  refine va_get (D := D) (ci := 4) (v := .ref (a 14)) (C := RX2) (T := TX2) (N := 7) hx hb hts ju_X2 hown hK hP 0 rfl rfl 1 (by decide) (hts _ jq_4_5) (fun _ h9 => h9) rfl dX2_add_7 ?_
  refine lv_iload hx hb dX2_add_10 (lv_at hl 0 rfl) ?_
  refine lv_iload_n hx hb dX2_add_12 rfl (lv_at hl 2 rfl) ?_
  refine jVmV C dX2_add_13 (kt_X5_set l D G (a 14) (a 15) 24 (Nat.le_of_ble_eq_true rfl) (M 7) (M 0 3) v1) jy_X5_set jq_14_17 jq_5_4 jq_5_5 ⟨rfl, rfl, Nat.le_of_ble_eq_true rfl, Nat.le_of_ble_eq_true rfl⟩ ⟨Nat.le_of_ble_eq_true rfl, Nat.le_of_ble_eq_true rfl⟩ (sX2_7 hP) (dX2_7 hD) hA hS (ci := 7) (iw := 0) rfl rfl rfl hl (rest := []) rfl (Nat.le_of_ble_eq_true rfl) (fun H locs hQ hz hkp hS => ?_)
  obtain ⟨M2, e20, hV⟩ := jLet hV
  have hP : va_P D vwCl (wPerf a G M2) H := by rw [e20]; exact jX2_7 hP hD hkp hQ
  have hD : va_D A (wPerf a G M2) := jD (w := (wPerf a G M)) rfl hD
  refine lv_aload_n hx hb dX2_add_16 rfl (lv_at hl 1 rfl) ?_
  refine va_get (D := D) (ci := 4) (v := .ref (a 16)) (C := RX2) (T := TX2) (N := 7) hx hb hts ju_X2 hown hK hP 0 rfl rfl 2 (by decide) (hts _ jq_4_6) (fun _ h9 => h9) rfl dX2_add_17 ?_
  refine lv_iload hx hb dX2_add_20 (lv_at hl 0 rfl) ?_
  refine lv_iload_n hx hb dX2_add_22 rfl (lv_at hl 3 rfl) ?_
  refine jVmV C dX2_add_23 (kt_X5_set l D G (a 16) (a 17) 24 (Nat.le_of_ble_eq_true rfl) (M2 8) (M 0 3) v2) jy_X5_set jq_14_17 jq_5_4 jq_5_5 ⟨rfl, rfl, Nat.le_of_ble_eq_true rfl, Nat.le_of_ble_eq_true rfl⟩ ⟨Nat.le_of_ble_eq_true rfl, Nat.le_of_ble_eq_true rfl⟩ (sX2_8 hP) (dX2_8 hD) hA hS (ci := 7) (iw := 0) rfl rfl rfl hl (rest := []) rfl (Nat.le_of_ble_eq_true rfl) (fun H locs hQ hz hkp hS => ?_)
  obtain ⟨M4, e19, hV⟩ := jLet hV
  have hP : va_P D vwCl (wPerf a G M4) H := by rw [e19]; exact jX2_8 hP hD hkp hQ
  have hD : va_D A (wPerf a G M4) := jD (w := (wPerf a G M2)) rfl hD
  refine lv_aload_n hx hb dX2_add_26 rfl (lv_at hl 1 rfl) ?_
  refine va_get (D := D) (ci := 4) (v := .ref (a 18)) (C := RX2) (T := TX2) (N := 7) hx hb hts ju_X2 hown hK hP 0 rfl rfl 3 (by decide) (hts _ jq_4_7) (fun _ h9 => h9) rfl dX2_add_27 ?_
  refine lv_iload hx hb dX2_add_30 (lv_at hl 0 rfl) ?_
  refine lv_iload_n hx hb dX2_add_32 rfl (lv_at hl 4 rfl) ?_
  refine jVmV C dX2_add_33 (kt_X5_set l D G (a 18) (a 19) 24 (Nat.le_of_ble_eq_true rfl) (M4 9) (M 0 3) v3) jy_X5_set jq_14_17 jq_5_4 jq_5_5 ⟨rfl, rfl, Nat.le_of_ble_eq_true rfl, Nat.le_of_ble_eq_true rfl⟩ ⟨Nat.le_of_ble_eq_true rfl, Nat.le_of_ble_eq_true rfl⟩ (sX2_9 hP) (dX2_9 hD) hA hS (ci := 7) (iw := 0) rfl rfl rfl hl (rest := []) rfl (Nat.le_of_ble_eq_true rfl) (fun H locs hQ hz hkp hS => ?_)
  obtain ⟨M6, e18, hV⟩ := jLet hV
  have hP : va_P D vwCl (wPerf a G M6) H := by rw [e18]; exact jX2_9 hP hD hkp hQ
  have hD : va_D A (wPerf a G M6) := jD (w := (wPerf a G M4)) rfl hD
  refine lv_aload_n hx hb dX2_add_36 rfl (lv_at hl 1 rfl) ?_
  refine va_get (D := D) (ci := 4) (v := .ref (a 20)) (C := RX2) (T := TX2) (N := 7) hx hb hts ju_X2 hown hK hP 0 rfl rfl 4 (by decide) (hts _ jq_4_8) (fun _ h9 => h9) rfl dX2_add_37 ?_
  refine lv_iload hx hb dX2_add_40 (lv_at hl 0 rfl) ?_
  refine lv_iconst (v := 0) hx hb dX2_add_42 (by decide) ?_
  refine jVmV C dX2_add_43 (kt_X5_set l D G (a 20) (a 21) 24 (Nat.le_of_ble_eq_true rfl) (M6 10) (M 0 3) (0 : Int32)) jy_X5_set jq_14_17 jq_5_4 jq_5_5 ⟨rfl, rfl, Nat.le_of_ble_eq_true rfl, Nat.le_of_ble_eq_true rfl⟩ ⟨Nat.le_of_ble_eq_true rfl, Nat.le_of_ble_eq_true rfl⟩ (sX2_10 hP) (dX2_10 hD) hA hS (ci := 7) (iw := 0) rfl rfl rfl hl (rest := []) rfl (Nat.le_of_ble_eq_true rfl) (fun H locs hQ hz hkp hS => ?_)
  obtain ⟨M8, e17, hV⟩ := jLet hV
  have hP : va_P D vwCl (wPerf a G M8) H := by rw [e17]; exact jX2_10 hP hD hkp hQ
  have hD : va_D A (wPerf a G M8) := jD (w := (wPerf a G M6)) rfl hD
  refine lv_aload_n hx hb dX2_add_46 rfl (lv_at hl 1 rfl) ?_
  refine va_get (D := D) (ci := 4) (v := .ref (a 22)) (C := RX2) (T := TX2) (N := 7) hx hb hts ju_X2 hown hK hP 0 rfl rfl 5 (by decide) (hts _ jq_4_9) (fun _ h9 => h9) rfl dX2_add_47 ?_
  refine lv_iload hx hb dX2_add_50 (lv_at hl 0 rfl) ?_
  refine lv_iconst (v := 0) hx hb dX2_add_52 (by decide) ?_
  refine jVmV C dX2_add_53 (kt_X5_set l D G (a 22) (a 23) 24 (Nat.le_of_ble_eq_true rfl) (M8 11) (M 0 3) (0 : Int32)) jy_X5_set jq_14_17 jq_5_4 jq_5_5 ⟨rfl, rfl, Nat.le_of_ble_eq_true rfl, Nat.le_of_ble_eq_true rfl⟩ ⟨Nat.le_of_ble_eq_true rfl, Nat.le_of_ble_eq_true rfl⟩ (sX2_11 hP) (dX2_11 hD) hA hS (ci := 7) (iw := 0) rfl rfl rfl hl (rest := []) rfl (Nat.le_of_ble_eq_true rfl) (fun H locs hQ hz hkp hS => ?_)
  obtain ⟨M10, e16, hV⟩ := jLet hV
  have hP : va_P D vwCl (wPerf a G M10) H := by rw [e16]; exact jX2_11 hP hD hkp hQ
  have hD : va_D A (wPerf a G M10) := jD (w := (wPerf a G M8)) rfl hD
  refine lv_aload_n hx hb dX2_add_56 rfl (lv_at hl 1 rfl) ?_
  refine va_get (D := D) (ci := 4) (v := .ref (a 24)) (C := RX2) (T := TX2) (N := 7) hx hb hts ju_X2 hown hK hP 0 rfl rfl 6 (by decide) (hts _ jq_4_10) (fun _ h9 => h9) rfl dX2_add_57 ?_
  refine lv_iload hx hb dX2_add_60 (lv_at hl 0 rfl) ?_
  refine lv_iconst (v := 0) hx hb dX2_add_62 (by decide) ?_
  refine jVmV C dX2_add_63 (kt_X5_set l D G (a 24) (a 25) 24 (Nat.le_of_ble_eq_true rfl) (M10 12) (M 0 3) (0 : Int32)) jy_X5_set jq_14_17 jq_5_4 jq_5_5 ⟨rfl, rfl, Nat.le_of_ble_eq_true rfl, Nat.le_of_ble_eq_true rfl⟩ ⟨Nat.le_of_ble_eq_true rfl, Nat.le_of_ble_eq_true rfl⟩ (sX2_12 hP) (dX2_12 hD) hA hS (ci := 7) (iw := 0) rfl rfl rfl hl (rest := []) rfl (Nat.le_of_ble_eq_true rfl) (fun H locs hQ hz hkp hS => ?_)
  obtain ⟨M12, e15, hV⟩ := jLet hV
  have hP : va_P D vwCl (wPerf a G M12) H := by rw [e15]; exact jX2_12 hP hD hkp hQ
  have hD : va_D A (wPerf a G M12) := jD (w := (wPerf a G M10)) rfl hD
  refine lv_aload_n hx hb dX2_add_66 rfl (lv_at hl 1 rfl) ?_
  refine lv_dup hx hb dX2_add_67 rfl ?_
  refine va_get (D := D) (ci := 4) (v := .int (M12 0 3)) (C := RX2) (T := TX2) (N := 7) hx hb hts ju_X2 hown hK hP 0 rfl rfl 0 (by decide) (hts _ jq_10_2) (fun _ h9 => h9) rfl dX2_add_68 ?_
  refine lv_iconst (v := 1) hx hb dX2_add_71 (by decide) ?_
  refine lv_iadd hx hb dX2_add_72 ?_
  refine va_put (D := D) (ci := 4) (v := .int ((M12 0 3) + (1 : Int32))) (ty := .int) (C := RX2) (T := TX2) (N := 7) hx hb hts ju_X2 tyX2 tyX2_ok nmX2 hown hK hP hD hS 0 rfl rfl 0 (by decide) (hts _ jq_10_2) (fun _ h9 => h9) rfl (by decide +kernel) rfl rfl (Nat.le_of_ble_eq_true rfl) dX2_add_73 (fun H locs hP hD hS => ?_)
  obtain ⟨M13, e14, hV⟩ := jLet hV
  have hP : va_P D vwCl (wPerf a G M13) H := by rw [e14]; exact hP
  have hD : va_D A (wPerf a G M13) := by rw [e14]; exact hD
  refine lv_iload hx hb dX2_add_76 (lv_at hl 0 rfl) ?_
  cases hV
  exact mRet C rfl dX2_add_78 rfl rfl hP hS
theorem jy_X2_find : jY yX2_find cX2_find 4 (some .int) 2 := ⟨by decide +kernel, jq_19_16, jq_3_0⟩
def D_X2_find_2 (N : Nat)  (M : Nat → Nat → Int32) : Nat → Int32 → Int32 → Int32 → Option Int32
  | 0, _, _, _ => none
  | n + 1, v1, v2, v3 => (if (M 0 3) ≤ v3 then (some (-1 : Int32)) else (if (rg 24 (M 8) v3) = v1 then (if (rg 24 (M 9) v3) = v2 then (some v3) else (D_X2_find_2 N  M  n  v1 v2 (v3 + 1))) else (D_X2_find_2 N  M  n  v1 v2 (v3 + 1))))
set_option maxHeartbeats 4000000 in
set_option maxRecDepth 100000 in
theorem B_X2_find_2 {p : Program} {l : Launch} {e : Env} {s : State} {m : MethodId} {args : Array Value} {below : List Frame} {meth : Method} {c : Code} {D : va_G} {G : Nat → ClassId} (C : Cx p s m args meth c cX2_find 4 RX2 (some .int) D G) (N : Nat) (a : Nat → Nat) (M : Nat → Nat → Int32) (r : Int32) (hP : va_P D vwCl (wPerf a G M) s.heap) : (∀ (n : Nat) (v1 : Int32) (v2 : Int32) (v3 : Int32) (ls : Array Slot), lv_has ls 4 [(0, .ref (a 37)), (1, .int v1), (2, .int v2), (3, .int v3)] → D_X2_find_2 N  M  n v1 v2 v3 = some r → W p l e ({ frames := 1, cells := 0, slots := 0, locals := 21 } : Room) s m args below meth c s.heap [] 0 0 (MQ below (QcRd (some (.int r))) args s 0 0 nofree) (F0 m 2 ls [])) := by
  have C := C
  obtain ⟨hx, hb, hr, hml, hts, hown, hlocks, hK0⟩ := id C
  have hK := hK0.1
  intro n
  induction n with
  | zero =>
    intro v1 v2 v3 ls hl hV
    rw [D_X2_find_2] at hV
    cases hV
  | succ n ih =>
    intro v1 v2 v3 ls hl hV
    rw [D_X2_find_2] at hV
    refine lv_iload_n hx hb dX2_find_2 rfl (lv_at hl 3 rfl) ?_
    refine lv_aload_n hx hb dX2_find_3 rfl (lv_at hl 0 rfl) ?_
    refine va_get (D := D) (ci := 4) (v := .int (M 0 3)) (C := RX2) (T := TX2) (N := 7) hx hb hts ju_X2 hown hK hP 0 rfl rfl 0 (by decide) (hts _ jq_10_2) (fun _ h9 => h9) rfl dX2_find_4 ?_
    refine lv_icmp_ge (tgt := 42) hx hb dX2_find_7 (by decide) (fun c5 => ?_) (fun c5 => ?_)
    · have hV := jT1 hV c5
      refine lv_iconst (v := -1) hx hb dX2_find_42 (by decide) ?_
      exact pRet C rfl dX2_find_43 rfl (Option.some.inj hV)
    · have hV := jF1 hV c5
      refine lv_aload_n hx hb dX2_find_10 rfl (lv_at hl 0 rfl) ?_
      refine va_get (D := D) (ci := 4) (v := .ref (a 16)) (C := RX2) (T := TX2) (N := 7) hx hb hts ju_X2 hown hK hP 0 rfl rfl 2 (by decide) (hts _ jq_4_6) (fun _ h9 => h9) rfl dX2_find_11 ?_
      refine lv_iload_n hx hb dX2_find_14 rfl (lv_at hl 3 rfl) ?_
      refine jVpI C dX2_find_15 (kt_X5_get l D G (a 16) (a 17) 24 (Nat.le_of_ble_eq_true rfl) (M 8) v3) jy_X5_get jq_6_20 jq_6_13 jq_6_14 ⟨rfl, rfl, Nat.le_of_ble_eq_true rfl, Nat.le_of_ble_eq_true rfl⟩ ⟨Nat.le_of_ble_eq_true rfl, Nat.le_of_ble_eq_true rfl⟩ (sX2_8 hP)  (ci := 7) (iw := 0) rfl rfl rfl hl (rest := []) rfl (Nat.le_of_ble_eq_true rfl) ?_
      refine lv_iload_n hx hb dX2_find_18 rfl (lv_at hl 1 rfl) ?_
      refine lv_icmp_ne (tgt := 36) hx hb dX2_find_19 (by decide) (fun c4 => ?_) (fun c4 => ?_)
      · have hV := jF1 hV c4
        refine lv_iinc (v := (v3 + 1)) (lv' := [(3, .int (v3 + 1)), (0, .ref (a 37)), (1, .int v1), (2, .int v2)]) hx hb dX2_find_36 hl (k := 3) rfl rfl (by decide) rfl (fun ls hl => ?_)
        refine lv_goto (tgt := 2) hx hb dX2_find_39 (by decide) ?_
        exact ih  v1 v2 (v3 + 1) _ (lv_sub hl [1, 2, 3, 0] rfl) hV
      · have hV := jT1 hV c4
        refine lv_aload_n hx hb dX2_find_22 rfl (lv_at hl 0 rfl) ?_
        refine va_get (D := D) (ci := 4) (v := .ref (a 18)) (C := RX2) (T := TX2) (N := 7) hx hb hts ju_X2 hown hK hP 0 rfl rfl 3 (by decide) (hts _ jq_4_7) (fun _ h9 => h9) rfl dX2_find_23 ?_
        refine lv_iload_n hx hb dX2_find_26 rfl (lv_at hl 3 rfl) ?_
        refine jVpI C dX2_find_27 (kt_X5_get l D G (a 18) (a 19) 24 (Nat.le_of_ble_eq_true rfl) (M 9) v3) jy_X5_get jq_6_20 jq_6_13 jq_6_14 ⟨rfl, rfl, Nat.le_of_ble_eq_true rfl, Nat.le_of_ble_eq_true rfl⟩ ⟨Nat.le_of_ble_eq_true rfl, Nat.le_of_ble_eq_true rfl⟩ (sX2_9 hP)  (ci := 7) (iw := 0) rfl rfl rfl hl (rest := []) rfl (Nat.le_of_ble_eq_true rfl) ?_
        refine lv_iload_n hx hb dX2_find_30 rfl (lv_at hl 2 rfl) ?_
        refine lv_icmp_ne (tgt := 36) hx hb dX2_find_31 (by decide) (fun c3 => ?_) (fun c3 => ?_)
        · have hV := jF1 hV c3
          refine lv_iinc (v := (v3 + 1)) (lv' := [(3, .int (v3 + 1)), (0, .ref (a 37)), (1, .int v1), (2, .int v2)]) hx hb dX2_find_36 hl (k := 3) rfl rfl (by decide) rfl (fun ls hl => ?_)
          refine lv_goto (tgt := 2) hx hb dX2_find_39 (by decide) ?_
          exact ih  v1 v2 (v3 + 1) _ (lv_sub hl [1, 2, 3, 0] rfl) hV
        · have hV := jT1 hV c3
          refine lv_iload_n hx hb dX2_find_34 rfl (lv_at hl 3 rfl) ?_
          exact pRet C rfl dX2_find_35 rfl (Option.some.inj hV)
def F_X2_find (N : Nat)  (M : Nat → Nat → Int32) (v1 v2 : Int32) : Option Int32 := (D_X2_find_2 N  M  N  v1 v2 (0 : Int32))
set_option maxHeartbeats 4000000 in
set_option maxRecDepth 100000 in
theorem k_X2_find (l : Launch) (D : va_G) (G : Nat → ClassId) (a : Nat → Nat) (N : Nat) (M : Nat → Nat → Int32) (v1 v2 : Int32) (r : Int32) (hV : F_X2_find N  M v1 v2 = some r) : pM l yX2_find (jws yX2_find cX2_find 4 (some .int)) ({ frames := 1, cells := 0, slots := 0, locals := 21 } : Room) [.ref (a 37), .int v1, .int v2] D G (wPerf a G M) (some (.int r)) := by
  refine pM_of (by decide +kernel) (Nat.le_of_ble_eq_true rfl) (fun p e s m args below meth c ls C hP hl => ?_)
  have C : Cx p s m args meth c cX2_find 4 RX2 (some .int) D G := C
  obtain ⟨hx, hb, hr, hml, hts, hown, hlocks, hK0⟩ := id C
  have hK := hK0.1
  have hl : lv_has ls 4 [(0, .ref (a 37)), (1, .int v1), (2, .int v2)] := hl
  rw [F_X2_find] at hV
  refine lv_iconst (v := 0) hx hb dX2_find_0 (by decide) ?_
  refine lv_istore_n (lv' := [(3, .int (0 : Int32)), (0, .ref (a 37)), (1, .int v1), (2, .int v2)]) hx hb dX2_find_1 rfl hl (by decide) rfl (fun ls hl => ?_)
  exact B_X2_find_2 C  N a M r hP   N  v1 v2 (0 : Int32) _ (lv_sub hl [1, 2, 3, 0] rfl) hV
theorem jy_X2_findOther : jY yX2_findOther cX2_findOther 7 (some .int) 4 := ⟨by decide +kernel, jq_13_12, jq_3_0⟩
def D_X2_findOther_43 (N : Nat)  (M : Nat → Nat → Int32) (k3 : Int32 → Int32 → Int32 → Int32 → Int32 → Option Int32) (v1 : Int32) (v2 : Int32) (v3 : Int32) (v4 : Int32) (v5 : Int32) (s0 : Int32) : Option Int32 := (if v5 = v1 then (k3  v1 v2 v3 v4 (v5 + 1)) else (if s0 = 0 then (k3  v1 v2 v3 v4 (v5 + 1)) else (if (rg 24 (M 9) v5) = v4 then (some v5) else (k3  v1 v2 v3 v4 (v5 + 1)))))
set_option maxHeartbeats 4000000 in
set_option maxRecDepth 100000 in
theorem B_X2_findOther_43 {p : Program} {l : Launch} {e : Env} {s : State} {m : MethodId} {args : Array Value} {below : List Frame} {meth : Method} {c : Code} {D : va_G} {G : Nat → ClassId} (C : Cx p s m args meth c cX2_findOther 7 RX2 (some .int) D G) (N : Nat) (a : Nat → Nat) (M : Nat → Nat → Int32) (r : Int32) (hP : va_P D vwCl (wPerf a G M) s.heap) (k3 : Int32 → Int32 → Int32 → Int32 → Int32 → Option Int32) (hk3 : (∀ (v1 : Int32) (v2 : Int32) (v3 : Int32) (v4 : Int32) (v5 : Int32) (ls : Array Slot), lv_has ls 7 [(0, .ref (a 37)), (1, .int v1), (2, .int v2), (3, .int v3), (4, .int v4), (5, .int v5)] → k3 v1 v2 v3 v4 v5 = some r → W p l e ({ frames := 1, cells := 0, slots := 0, locals := 21 } : Room) s m args below meth c s.heap [] 0 0 (MQ below (QcRd (some (.int r))) args s 0 0 nofree) (F0 m 3 ls []))) : (∀ (v1 : Int32) (v2 : Int32) (v3 : Int32) (v4 : Int32) (v5 : Int32) (s0 : Int32) (ls : Array Slot), lv_has ls 7 [(0, .ref (a 37)), (1, .int v1), (2, .int v2), (3, .int v3), (4, .int v4), (5, .int v5)] → D_X2_findOther_43 N  M k3 v1 v2 v3 v4 v5 s0 = some r → W p l e ({ frames := 1, cells := 0, slots := 0, locals := 21 } : Room) s m args below meth c s.heap [] 0 0 (MQ below (QcRd (some (.int r))) args s 0 0 nofree) (F0 m 43 ls [.int s0])) := by
  have C := C
  obtain ⟨hx, hb, hr, hml, hts, hown, hlocks, hK0⟩ := id C
  have hK := hK0.1
  intro v1 v2 v3 v4 v5 s0 ls hl hV
  rw [D_X2_findOther_43] at hV
  refine lv_istore (lv' := [(6, .int s0), (0, .ref (a 37)), (1, .int v1), (2, .int v2), (3, .int v3), (4, .int v4), (5, .int v5)]) hx hb dX2_findOther_43 hl (by decide) rfl (fun ls hl => ?_)
  refine lv_iload hx hb dX2_findOther_45 (lv_at hl 6 rfl) ?_
  refine lv_iload_n hx hb dX2_findOther_47 rfl (lv_at hl 2 rfl) ?_
  refine lv_icmp_eq (tgt := 73) hx hb dX2_findOther_48 (by decide) (fun c4 => ?_) (fun c4 => ?_)
  · have hV := jT1 hV c4
    refine lv_iinc (v := (v5 + 1)) (lv' := [(5, .int (v5 + 1)), (6, .int s0), (0, .ref (a 37)), (1, .int v1), (2, .int v2), (3, .int v3), (4, .int v4)]) hx hb dX2_findOther_73 hl (k := 6) rfl rfl (by decide) rfl (fun ls hl => ?_)
    refine lv_goto (tgt := 3) hx hb dX2_findOther_76 (by decide) ?_
    exact hk3  v1 v2 v3 v4 (v5 + 1) _ (lv_sub hl [2, 3, 4, 5, 6, 0] rfl) hV
  · have hV := jF1 hV c4
    refine lv_iload hx hb dX2_findOther_51 (lv_at hl 0 rfl) ?_
    refine lv_if_eq (tgt := 73) hx hb dX2_findOther_53 (by decide) (fun c3 => ?_) (fun c3 => ?_)
    · have hV := jT1 hV c3
      refine lv_iinc (v := (v5 + 1)) (lv' := [(5, .int (v5 + 1)), (6, .int s0), (0, .ref (a 37)), (1, .int v1), (2, .int v2), (3, .int v3), (4, .int v4)]) hx hb dX2_findOther_73 hl (k := 6) rfl rfl (by decide) rfl (fun ls hl => ?_)
      refine lv_goto (tgt := 3) hx hb dX2_findOther_76 (by decide) ?_
      exact hk3  v1 v2 v3 v4 (v5 + 1) _ (lv_sub hl [2, 3, 4, 5, 6, 0] rfl) hV
    · have hV := jF1 hV c3
      refine lv_aload_n hx hb dX2_findOther_56 rfl (lv_at hl 1 rfl) ?_
      refine va_get (D := D) (ci := 4) (v := .ref (a 18)) (C := RX2) (T := TX2) (N := 7) hx hb hts ju_X2 hown hK hP 0 rfl rfl 3 (by decide) (hts _ jq_4_7) (fun _ h9 => h9) rfl dX2_findOther_57 ?_
      refine lv_iload hx hb dX2_findOther_60 (lv_at hl 6 rfl) ?_
      refine jVpI C dX2_findOther_62 (kt_X5_get l D G (a 18) (a 19) 24 (Nat.le_of_ble_eq_true rfl) (M 9) v5) jy_X5_get jq_6_20 jq_6_13 jq_6_14 ⟨rfl, rfl, Nat.le_of_ble_eq_true rfl, Nat.le_of_ble_eq_true rfl⟩ ⟨Nat.le_of_ble_eq_true rfl, Nat.le_of_ble_eq_true rfl⟩ (sX2_9 hP)  (ci := 7) (iw := 0) rfl rfl rfl hl (rest := []) rfl (Nat.le_of_ble_eq_true rfl) ?_
      refine lv_iload hx hb dX2_findOther_65 (lv_at hl 5 rfl) ?_
      refine lv_icmp_ne (tgt := 73) hx hb dX2_findOther_67 (by decide) (fun c2 => ?_) (fun c2 => ?_)
      · have hV := jF1 hV c2
        refine lv_iinc (v := (v5 + 1)) (lv' := [(5, .int (v5 + 1)), (6, .int s0), (0, .ref (a 37)), (1, .int v1), (2, .int v2), (3, .int v3), (4, .int v4)]) hx hb dX2_findOther_73 hl (k := 6) rfl rfl (by decide) rfl (fun ls hl => ?_)
        refine lv_goto (tgt := 3) hx hb dX2_findOther_76 (by decide) ?_
        exact hk3  v1 v2 v3 v4 (v5 + 1) _ (lv_sub hl [2, 3, 4, 5, 6, 0] rfl) hV
      · have hV := jT1 hV c2
        refine lv_iload hx hb dX2_findOther_70 (lv_at hl 6 rfl) ?_
        exact pRet C rfl dX2_findOther_72 rfl (Option.some.inj hV)
def D_X2_findOther_3 (N : Nat)  (M : Nat → Nat → Int32) : Nat → Int32 → Int32 → Int32 → Int32 → Int32 → Option Int32
  | 0, _, _, _, _, _ => none
  | n + 1, v1, v2, v3, v4, v5 => (if (M 0 3) ≤ v5 then (some (-1 : Int32)) else (if (rg 24 (M 8) v5) = v3 then (D_X2_findOther_43 N  M (D_X2_findOther_3 N  M  n)  v1 v2 v3 v4 v5 (1 : Int32)) else (if (rg 24 (M 7) v5) = v2 then (D_X2_findOther_43 N  M (D_X2_findOther_3 N  M  n)  v1 v2 v3 v4 v5 (1 : Int32)) else (D_X2_findOther_43 N  M (D_X2_findOther_3 N  M  n)  v1 v2 v3 v4 v5 (0 : Int32)))))
set_option maxHeartbeats 4000000 in
set_option maxRecDepth 100000 in
theorem B_X2_findOther_3 {p : Program} {l : Launch} {e : Env} {s : State} {m : MethodId} {args : Array Value} {below : List Frame} {meth : Method} {c : Code} {D : va_G} {G : Nat → ClassId} (C : Cx p s m args meth c cX2_findOther 7 RX2 (some .int) D G) (N : Nat) (a : Nat → Nat) (M : Nat → Nat → Int32) (r : Int32) (hP : va_P D vwCl (wPerf a G M) s.heap) : (∀ (n : Nat) (v1 : Int32) (v2 : Int32) (v3 : Int32) (v4 : Int32) (v5 : Int32) (ls : Array Slot), lv_has ls 7 [(0, .ref (a 37)), (1, .int v1), (2, .int v2), (3, .int v3), (4, .int v4), (5, .int v5)] → D_X2_findOther_3 N  M  n v1 v2 v3 v4 v5 = some r → W p l e ({ frames := 1, cells := 0, slots := 0, locals := 21 } : Room) s m args below meth c s.heap [] 0 0 (MQ below (QcRd (some (.int r))) args s 0 0 nofree) (F0 m 3 ls [])) := by
  have C := C
  obtain ⟨hx, hb, hr, hml, hts, hown, hlocks, hK0⟩ := id C
  have hK := hK0.1
  intro n
  induction n with
  | zero =>
    intro v1 v2 v3 v4 v5 ls hl hV
    rw [D_X2_findOther_3] at hV
    cases hV
  | succ n ih =>
    intro v1 v2 v3 v4 v5 ls hl hV
    rw [D_X2_findOther_3] at hV
    refine lv_iload hx hb dX2_findOther_3 (lv_at hl 5 rfl) ?_
    refine lv_aload_n hx hb dX2_findOther_5 rfl (lv_at hl 0 rfl) ?_
    refine va_get (D := D) (ci := 4) (v := .int (M 0 3)) (C := RX2) (T := TX2) (N := 7) hx hb hts ju_X2 hown hK hP 0 rfl rfl 0 (by decide) (hts _ jq_10_2) (fun _ h9 => h9) rfl dX2_findOther_6 ?_
    refine lv_icmp_ge (tgt := 79) hx hb dX2_findOther_9 (by decide) (fun c9 => ?_) (fun c9 => ?_)
    · have hV := jT1 hV c9
      refine lv_iconst (v := -1) hx hb dX2_findOther_79 (by decide) ?_
      exact pRet C rfl dX2_findOther_80 rfl (Option.some.inj hV)
    · have hV := jF1 hV c9
      refine lv_aload_n hx hb dX2_findOther_12 rfl (lv_at hl 0 rfl) ?_
      refine va_get (D := D) (ci := 4) (v := .ref (a 16)) (C := RX2) (T := TX2) (N := 7) hx hb hts ju_X2 hown hK hP 0 rfl rfl 2 (by decide) (hts _ jq_4_6) (fun _ h9 => h9) rfl dX2_findOther_13 ?_
      refine lv_iload hx hb dX2_findOther_16 (lv_at hl 5 rfl) ?_
      refine jVpI C dX2_findOther_18 (kt_X5_get l D G (a 16) (a 17) 24 (Nat.le_of_ble_eq_true rfl) (M 8) v5) jy_X5_get jq_6_20 jq_6_13 jq_6_14 ⟨rfl, rfl, Nat.le_of_ble_eq_true rfl, Nat.le_of_ble_eq_true rfl⟩ ⟨Nat.le_of_ble_eq_true rfl, Nat.le_of_ble_eq_true rfl⟩ (sX2_8 hP)  (ci := 7) (iw := 0) rfl rfl rfl hl (rest := []) rfl (Nat.le_of_ble_eq_true rfl) ?_
      refine lv_iload_n hx hb dX2_findOther_21 rfl (lv_at hl 3 rfl) ?_
      refine lv_icmp_eq (tgt := 38) hx hb dX2_findOther_22 (by decide) (fun c8 => ?_) (fun c8 => ?_)
      · have hV := jT1 hV c8
        refine lv_iconst (v := 1) hx hb dX2_findOther_38 (by decide) ?_
        refine lv_goto (tgt := 43) hx hb dX2_findOther_39 (by decide) ?_
        exact B_X2_findOther_43 C  N a M r hP (D_X2_findOther_3 N  M  n) ih  v1 v2 v3 v4 v5 (1 : Int32) _ (lv_sub hl [0, 1, 2, 3, 4, 5] rfl) hV
      · have hV := jF1 hV c8
        refine lv_aload_n hx hb dX2_findOther_25 rfl (lv_at hl 0 rfl) ?_
        refine va_get (D := D) (ci := 4) (v := .ref (a 14)) (C := RX2) (T := TX2) (N := 7) hx hb hts ju_X2 hown hK hP 0 rfl rfl 1 (by decide) (hts _ jq_4_5) (fun _ h9 => h9) rfl dX2_findOther_26 ?_
        refine lv_iload hx hb dX2_findOther_29 (lv_at hl 5 rfl) ?_
        refine jVpI C dX2_findOther_31 (kt_X5_get l D G (a 14) (a 15) 24 (Nat.le_of_ble_eq_true rfl) (M 7) v5) jy_X5_get jq_6_20 jq_6_13 jq_6_14 ⟨rfl, rfl, Nat.le_of_ble_eq_true rfl, Nat.le_of_ble_eq_true rfl⟩ ⟨Nat.le_of_ble_eq_true rfl, Nat.le_of_ble_eq_true rfl⟩ (sX2_7 hP)  (ci := 7) (iw := 0) rfl rfl rfl hl (rest := []) rfl (Nat.le_of_ble_eq_true rfl) ?_
        refine lv_iload_n hx hb dX2_findOther_34 rfl (lv_at hl 2 rfl) ?_
        refine lv_icmp_ne (tgt := 42) hx hb dX2_findOther_35 (by decide) (fun c7 => ?_) (fun c7 => ?_)
        · have hV := jF1 hV c7
          refine lv_iconst (v := 0) hx hb dX2_findOther_42 (by decide) ?_
          exact B_X2_findOther_43 C  N a M r hP (D_X2_findOther_3 N  M  n) ih  v1 v2 v3 v4 v5 (0 : Int32) _ (lv_sub hl [0, 1, 2, 3, 4, 5] rfl) hV
        · have hV := jT1 hV c7
          refine lv_iconst (v := 1) hx hb dX2_findOther_38 (by decide) ?_
          refine lv_goto (tgt := 43) hx hb dX2_findOther_39 (by decide) ?_
          exact B_X2_findOther_43 C  N a M r hP (D_X2_findOther_3 N  M  n) ih  v1 v2 v3 v4 v5 (1 : Int32) _ (lv_sub hl [0, 1, 2, 3, 4, 5] rfl) hV
def F_X2_findOther (N : Nat)  (M : Nat → Nat → Int32) (v1 v2 v3 v4 : Int32) : Option Int32 := (D_X2_findOther_3 N  M  N  v1 v2 v3 v4 (0 : Int32))
set_option maxHeartbeats 4000000 in
set_option maxRecDepth 100000 in
theorem k_X2_findOther (l : Launch) (D : va_G) (G : Nat → ClassId) (a : Nat → Nat) (N : Nat) (M : Nat → Nat → Int32) (v1 v2 v3 v4 : Int32) (r : Int32) (hV : F_X2_findOther N  M v1 v2 v3 v4 = some r) : pM l yX2_findOther (jws yX2_findOther cX2_findOther 7 (some .int)) ({ frames := 1, cells := 0, slots := 0, locals := 21 } : Room) [.ref (a 37), .int v1, .int v2, .int v3, .int v4] D G (wPerf a G M) (some (.int r)) := by
  refine pM_of (by decide +kernel) (Nat.le_of_ble_eq_true rfl) (fun p e s m args below meth c ls C hP hl => ?_)
  have C : Cx p s m args meth c cX2_findOther 7 RX2 (some .int) D G := C
  obtain ⟨hx, hb, hr, hml, hts, hown, hlocks, hK0⟩ := id C
  have hK := hK0.1
  have hl : lv_has ls 7 [(0, .ref (a 37)), (1, .int v1), (2, .int v2), (3, .int v3), (4, .int v4)] := hl
  rw [F_X2_findOther] at hV
  refine lv_iconst (v := 0) hx hb dX2_findOther_0 (by decide) ?_
  refine lv_istore (lv' := [(5, .int (0 : Int32)), (0, .ref (a 37)), (1, .int v1), (2, .int v2), (3, .int v3), (4, .int v4)]) hx hb dX2_findOther_1 hl (by decide) rfl (fun ls hl => ?_)
  exact B_X2_findOther_3 C  N a M r hP   N  v1 v2 v3 v4 (0 : Int32) _ (lv_sub hl [1, 2, 3, 4, 5, 0] rfl) hV
theorem jy_X2_taken : jY yX2_taken cX2_taken 2 (some .int) 1 := ⟨by decide +kernel, jq_6_19, jq_3_0⟩
def F_X2_taken (N : Nat)  (M : Nat → Nat → Int32) (v1 : Int32) : Option Int32 := (some ((rg 24 (M 10) v1) + (rg 24 (M 11) v1)))
set_option maxHeartbeats 4000000 in
set_option maxRecDepth 100000 in
theorem k_X2_taken (l : Launch) (D : va_G) (G : Nat → ClassId) (a : Nat → Nat) (N : Nat) (M : Nat → Nat → Int32) (v1 : Int32) (r : Int32) (hV : F_X2_taken N  M v1 = some r) : pM l yX2_taken (jws yX2_taken cX2_taken 2 (some .int)) ({ frames := 1, cells := 0, slots := 0, locals := 21 } : Room) [.ref (a 37), .int v1] D G (wPerf a G M) (some (.int r)) := by
  refine pM_of (by decide +kernel) (Nat.le_of_ble_eq_true rfl) (fun p e s m args below meth c ls C hP hl => ?_)
  have C : Cx p s m args meth c cX2_taken 2 RX2 (some .int) D G := C
  obtain ⟨hx, hb, hr, hml, hts, hown, hlocks, hK0⟩ := id C
  have hK := hK0.1
  have hl : lv_has ls 2 [(0, .ref (a 37)), (1, .int v1)] := hl
  rw [F_X2_taken] at hV
  refine lv_aload_n hx hb dX2_taken_0 rfl (lv_at hl 0 rfl) ?_
  refine va_get (D := D) (ci := 4) (v := .ref (a 20)) (C := RX2) (T := TX2) (N := 7) hx hb hts ju_X2 hown hK hP 0 rfl rfl 4 (by decide) (hts _ jq_4_8) (fun _ h9 => h9) rfl dX2_taken_1 ?_
  refine lv_iload_n hx hb dX2_taken_4 rfl (lv_at hl 1 rfl) ?_
  refine jVpI C dX2_taken_5 (kt_X5_get l D G (a 20) (a 21) 24 (Nat.le_of_ble_eq_true rfl) (M 10) v1) jy_X5_get jq_6_20 jq_6_13 jq_6_14 ⟨rfl, rfl, Nat.le_of_ble_eq_true rfl, Nat.le_of_ble_eq_true rfl⟩ ⟨Nat.le_of_ble_eq_true rfl, Nat.le_of_ble_eq_true rfl⟩ (sX2_10 hP)  (ci := 7) (iw := 0) rfl rfl rfl hl (rest := []) rfl (Nat.le_of_ble_eq_true rfl) ?_
  refine lv_aload_n hx hb dX2_taken_8 rfl (lv_at hl 0 rfl) ?_
  refine va_get (D := D) (ci := 4) (v := .ref (a 22)) (C := RX2) (T := TX2) (N := 7) hx hb hts ju_X2 hown hK hP 0 rfl rfl 5 (by decide) (hts _ jq_4_9) (fun _ h9 => h9) rfl dX2_taken_9 ?_
  refine lv_iload_n hx hb dX2_taken_12 rfl (lv_at hl 1 rfl) ?_
  refine jVpI C dX2_taken_13 (kt_X5_get l D G (a 22) (a 23) 24 (Nat.le_of_ble_eq_true rfl) (M 11) v1) jy_X5_get jq_6_20 jq_6_13 jq_6_14 ⟨rfl, rfl, Nat.le_of_ble_eq_true rfl, Nat.le_of_ble_eq_true rfl⟩ ⟨Nat.le_of_ble_eq_true rfl, Nat.le_of_ble_eq_true rfl⟩ (sX2_11 hP)  (ci := 7) (iw := 0) rfl rfl rfl hl (rest := [.int (rg 24 (M 10) v1)]) rfl (Nat.le_of_ble_eq_true rfl) ?_
  refine lv_iadd hx hb dX2_taken_16 ?_
  exact pRet C rfl dX2_taken_17 rfl (Option.some.inj hV)
theorem jy_X2_isHeldBy : jY yX2_isHeldBy cX2_isHeldBy 3 (some .boolean) 2 := ⟨by decide +kernel, jq_16_7, jq_3_0⟩
def F_X2_isHeldBy (N : Nat)  (M : Nat → Nat → Int32) (v1 v2 : Int32) : Option Int32 := (if isB (jBit (rg 24 (M 12) v2) v1) = true then (some (jBit (rg 24 (M 12) v2) v1)) else none)
set_option maxHeartbeats 4000000 in
set_option maxRecDepth 100000 in
theorem k_X2_isHeldBy (l : Launch) (D : va_G) (G : Nat → ClassId) (a : Nat → Nat) (N : Nat) (M : Nat → Nat → Int32) (v1 v2 : Int32) (r : Int32) (hV : F_X2_isHeldBy N  M v1 v2 = some r) : pM l yX2_isHeldBy (jws yX2_isHeldBy cX2_isHeldBy 3 (some .boolean)) ({ frames := 1, cells := 0, slots := 0, locals := 21 } : Room) [.ref (a 37), .int v1, .int v2] D G (wPerf a G M) (some (.int r)) := by
  refine pM_of (by decide +kernel) (Nat.le_of_ble_eq_true rfl) (fun p e s m args below meth c ls C hP hl => ?_)
  have C : Cx p s m args meth c cX2_isHeldBy 3 RX2 (some .boolean) D G := C
  obtain ⟨hx, hb, hr, hml, hts, hown, hlocks, hK0⟩ := id C
  have hK := hK0.1
  have hl : lv_has ls 3 [(0, .ref (a 37)), (1, .int v1), (2, .int v2)] := hl
  rw [F_X2_isHeldBy] at hV
  refine lv_aload_n hx hb dX2_isHeldBy_0 rfl (lv_at hl 0 rfl) ?_
  refine va_get (D := D) (ci := 4) (v := .ref (a 24)) (C := RX2) (T := TX2) (N := 7) hx hb hts ju_X2 hown hK hP 0 rfl rfl 6 (by decide) (hts _ jq_4_10) (fun _ h9 => h9) rfl dX2_isHeldBy_1 ?_
  refine lv_iload_n hx hb dX2_isHeldBy_4 rfl (lv_at hl 2 rfl) ?_
  refine jVpI C dX2_isHeldBy_5 (kt_X5_get l D G (a 24) (a 25) 24 (Nat.le_of_ble_eq_true rfl) (M 12) v2) jy_X5_get jq_6_20 jq_6_13 jq_6_14 ⟨rfl, rfl, Nat.le_of_ble_eq_true rfl, Nat.le_of_ble_eq_true rfl⟩ ⟨Nat.le_of_ble_eq_true rfl, Nat.le_of_ble_eq_true rfl⟩ (sX2_12 hP)  (ci := 7) (iw := 0) rfl rfl rfl hl (rest := []) rfl (Nat.le_of_ble_eq_true rfl) ?_
  refine lv_iload_n hx hb dX2_isHeldBy_8 rfl (lv_at hl 1 rfl) ?_
  refine jSpNI C dX2_isHeldBy_9 (host := "TheatreSeasons") (kt_X8_isInSet l D G    (rg 24 (M 12) v2) v1) jy_X8_isInSet jn_45 jq_14_7 ⟨rfl, rfl, Nat.le_of_ble_eq_true rfl, Nat.le_of_ble_eq_true rfl⟩ ⟨Nat.le_of_ble_eq_true rfl, Nat.le_of_ble_eq_true rfl⟩ jE  hl (rest := []) rfl (Nat.le_of_ble_eq_true rfl) ?_
  obtain ⟨g3, hV⟩ := jIf hV
  exact pRet C rfl dX2_isHeldBy_12 (isB_n g3) (Option.some.inj hV)
theorem jy_X2_heldFor : jY yX2_heldFor cX2_heldFor 4 (some .int) 1 := ⟨by decide +kernel, jq_16_21, jq_3_0⟩
def D_X2_heldFor_4 (N : Nat)  (M : Nat → Nat → Int32) : Nat → Int32 → Int32 → Int32 → Option Int32
  | 0, _, _, _ => none
  | n + 1, v1, v2, v3 => (if (M 0 3) ≤ v3 then (some v2) else ((F_X2_isHeldBy N M v1 v3).bind (fun r1 => (if r1 = 0 then (D_X2_heldFor_4 N  M  n  v1 v2 (v3 + 1)) else (D_X2_heldFor_4 N  M  n  v1 (v2 ||| ((1 : Int32) <<< (v3 &&& 31))) (v3 + 1))))))
set_option maxHeartbeats 4000000 in
set_option maxRecDepth 100000 in
theorem B_X2_heldFor_4 {p : Program} {l : Launch} {e : Env} {s : State} {m : MethodId} {args : Array Value} {below : List Frame} {meth : Method} {c : Code} {D : va_G} {G : Nat → ClassId} (C : Cx p s m args meth c cX2_heldFor 4 RX2 (some .int) D G) (N : Nat) (a : Nat → Nat) (M : Nat → Nat → Int32) (r : Int32) (hP : va_P D vwCl (wPerf a G M) s.heap) : (∀ (n : Nat) (v1 : Int32) (v2 : Int32) (v3 : Int32) (ls : Array Slot), lv_has ls 4 [(0, .ref (a 37)), (1, .int v1), (2, .int v2), (3, .int v3)] → D_X2_heldFor_4 N  M  n v1 v2 v3 = some r → W p l e ({ frames := 2, cells := 0, slots := 0, locals := 43 } : Room) s m args below meth c s.heap [] 0 0 (MQ below (QcRd (some (.int r))) args s 0 0 nofree) (F0 m 4 ls [])) := by
  have C := C
  obtain ⟨hx, hb, hr, hml, hts, hown, hlocks, hK0⟩ := id C
  have hK := hK0.1
  intro n
  induction n with
  | zero =>
    intro v1 v2 v3 ls hl hV
    rw [D_X2_heldFor_4] at hV
    cases hV
  | succ n ih =>
    intro v1 v2 v3 ls hl hV
    rw [D_X2_heldFor_4] at hV
    refine lv_iload_n hx hb dX2_heldFor_4 rfl (lv_at hl 3 rfl) ?_
    refine lv_aload_n hx hb dX2_heldFor_5 rfl (lv_at hl 0 rfl) ?_
    refine va_get (D := D) (ci := 4) (v := .int (M 0 3)) (C := RX2) (T := TX2) (N := 7) hx hb hts ju_X2 hown hK hP 0 rfl rfl 0 (by decide) (hts _ jq_10_2) (fun _ h9 => h9) rfl dX2_heldFor_6 ?_
    refine lv_icmp_ge (tgt := 33) hx hb dX2_heldFor_9 (by decide) (fun c3 => ?_) (fun c3 => ?_)
    · have hV := jT1 hV c3
      refine lv_iload_n hx hb dX2_heldFor_33 rfl (lv_at hl 2 rfl) ?_
      exact pRet C rfl dX2_heldFor_34 rfl (Option.some.inj hV)
    · have hV := jF1 hV c3
      refine lv_aload_n hx hb dX2_heldFor_12 rfl (lv_at hl 0 rfl) ?_
      refine lv_iload_n hx hb dX2_heldFor_13 rfl (lv_at hl 1 rfl) ?_
      refine lv_iload_n hx hb dX2_heldFor_14 rfl (lv_at hl 3 rfl) ?_
      obtain ⟨r1, hr1, hV⟩ := jBind hV
      refine jVpI C dX2_heldFor_15 (k_X2_isHeldBy l D G a N M v1 v3 r1 hr1) jy_X2_isHeldBy jq_16_22 jq_16_5 jq_16_6 ⟨rfl, rfl, Nat.le_of_ble_eq_true rfl, Nat.le_of_ble_eq_true rfl⟩ ⟨Nat.le_of_ble_eq_true rfl, Nat.le_of_ble_eq_true rfl⟩ hP  (ci := 4) (iw := 0) rfl rfl rfl hl (rest := []) rfl (Nat.le_of_ble_eq_true rfl) ?_
      refine lv_if_eq (tgt := 27) hx hb dX2_heldFor_18 (by decide) (fun c2 => ?_) (fun c2 => ?_)
      · have hV := jT1 hV c2
        refine lv_iinc (v := (v3 + 1)) (lv' := [(3, .int (v3 + 1)), (0, .ref (a 37)), (1, .int v1), (2, .int v2)]) hx hb dX2_heldFor_27 hl (k := 3) rfl rfl (by decide) rfl (fun ls hl => ?_)
        refine lv_goto (tgt := 4) hx hb dX2_heldFor_30 (by decide) ?_
        exact ih  v1 v2 (v3 + 1) _ (lv_sub hl [1, 2, 3, 0] rfl) hV
      · have hV := jF1 hV c2
        refine lv_iload_n hx hb dX2_heldFor_21 rfl (lv_at hl 2 rfl) ?_
        refine lv_iconst (v := 1) hx hb dX2_heldFor_22 (by decide) ?_
        refine lv_iload_n hx hb dX2_heldFor_23 rfl (lv_at hl 3 rfl) ?_
        refine lv_ishl hx hb dX2_heldFor_24 ?_
        refine lv_ior hx hb dX2_heldFor_25 ?_
        refine lv_istore_n (lv' := [(2, .int (v2 ||| ((1 : Int32) <<< (v3 &&& 31)))), (0, .ref (a 37)), (1, .int v1), (3, .int v3)]) hx hb dX2_heldFor_26 rfl hl (by decide) rfl (fun ls hl => ?_)
        refine lv_iinc (v := (v3 + 1)) (lv' := [(3, .int (v3 + 1)), (2, .int (v2 ||| ((1 : Int32) <<< (v3 &&& 31)))), (0, .ref (a 37)), (1, .int v1)]) hx hb dX2_heldFor_27 hl (k := 3) rfl rfl (by decide) rfl (fun ls hl => ?_)
        refine lv_goto (tgt := 4) hx hb dX2_heldFor_30 (by decide) ?_
        exact ih  v1 (v2 ||| ((1 : Int32) <<< (v3 &&& 31))) (v3 + 1) _ (lv_sub hl [2, 3, 1, 0] rfl) hV
def F_X2_heldFor (N : Nat)  (M : Nat → Nat → Int32) (v1 : Int32) : Option Int32 := (D_X2_heldFor_4 N  M  N  v1 (0 : Int32) (0 : Int32))
set_option maxHeartbeats 4000000 in
set_option maxRecDepth 100000 in
theorem k_X2_heldFor (l : Launch) (D : va_G) (G : Nat → ClassId) (a : Nat → Nat) (N : Nat) (M : Nat → Nat → Int32) (v1 : Int32) (r : Int32) (hV : F_X2_heldFor N  M v1 = some r) : pM l yX2_heldFor (jws yX2_heldFor cX2_heldFor 4 (some .int)) ({ frames := 2, cells := 0, slots := 0, locals := 43 } : Room) [.ref (a 37), .int v1] D G (wPerf a G M) (some (.int r)) := by
  refine pM_of (by decide +kernel) (Nat.le_of_ble_eq_true rfl) (fun p e s m args below meth c ls C hP hl => ?_)
  have C : Cx p s m args meth c cX2_heldFor 4 RX2 (some .int) D G := C
  obtain ⟨hx, hb, hr, hml, hts, hown, hlocks, hK0⟩ := id C
  have hK := hK0.1
  have hl : lv_has ls 4 [(0, .ref (a 37)), (1, .int v1)] := hl
  rw [F_X2_heldFor] at hV
  refine lv_iconst (v := 0) hx hb dX2_heldFor_0 (by decide) ?_
  refine lv_istore_n (lv' := [(2, .int (0 : Int32)), (0, .ref (a 37)), (1, .int v1)]) hx hb dX2_heldFor_1 rfl hl (by decide) rfl (fun ls hl => ?_)
  refine lv_iconst (v := 0) hx hb dX2_heldFor_2 (by decide) ?_
  refine lv_istore_n (lv' := [(3, .int (0 : Int32)), (2, .int (0 : Int32)), (0, .ref (a 37)), (1, .int v1)]) hx hb dX2_heldFor_3 rfl hl (by decide) rfl (fun ls hl => ?_)
  exact B_X2_heldFor_4 C  N a M r hP   N  v1 (0 : Int32) (0 : Int32) _ (lv_sub hl [2, 3, 1, 0] rfl) hV
theorem jy_X2_beginHolding : jY yX2_beginHolding cX2_beginHolding 4 none 3 := ⟨by decide +kernel, jq_16_11, jq_3_0⟩
def F_X2_beginHolding (N : Nat)  (M : Nat → Nat → Int32) (v1 v2 v3 : Int32) : Option (Nat → Nat → Int32) := (jlet (u1 M 12 (rs 24 (M 12) v2 ((rg 24 (M 12) v2) ||| ((1 : Int32) <<< (v1 &&& 31))))) (fun M3 => (jlet (u1 M3 11 (rs 24 (M3 11) v2 (rg 24 (M3 11) v2 + v3))) (fun M5 => (some M5)))))
set_option maxHeartbeats 4000000 in
set_option maxRecDepth 100000 in
theorem k_X2_beginHolding (l : Launch) (D : va_G) (G : Nat → ClassId) (a : Nat → Nat) (N : Nat) (M : Nat → Nat → Int32) (v1 v2 v3 : Int32) (r : (Nat → Nat → Int32)) (hV : F_X2_beginHolding N  M v1 v2 v3 = some r) : mM l yX2_beginHolding (jws yX2_beginHolding cX2_beginHolding 4 none) ({ frames := 2, cells := 0, slots := 0, locals := 44 } : Room) [.ref (a 37), .int v1, .int v2, .int v3] D G (wPerf a G M) (wPerf a G r) none := by
  refine mM_of (by decide +kernel) (Nat.le_of_ble_eq_true rfl) (fun p e s m args below meth c ls A C hP hD hA hl => ?_)
  have C : Cx p s m args meth c cX2_beginHolding 4 RX2 none D G := C
  have hS : va_S A s.heap s.heap [] := va_S.rf
  obtain ⟨hx, hb, hr, hml, hts, hown, hlocks, hK0⟩ := id C
  have hK := hK0.1
  have hl : lv_has ls 4 [(0, .ref (a 37)), (1, .int v1), (2, .int v2), (3, .int v3)] := hl
  rw [F_X2_beginHolding] at hV
  refine lv_aload_n hx hb dX2_beginHolding_0 rfl (lv_at hl 0 rfl) ?_
  refine va_get (D := D) (ci := 4) (v := .ref (a 24)) (C := RX2) (T := TX2) (N := 7) hx hb hts ju_X2 hown hK hP 0 rfl rfl 6 (by decide) (hts _ jq_4_10) (fun _ h9 => h9) rfl dX2_beginHolding_1 ?_
  refine lv_iload_n hx hb dX2_beginHolding_4 rfl (lv_at hl 2 rfl) ?_
  refine lv_aload_n hx hb dX2_beginHolding_5 rfl (lv_at hl 0 rfl) ?_
  refine va_get (D := D) (ci := 4) (v := .ref (a 24)) (C := RX2) (T := TX2) (N := 7) hx hb hts ju_X2 hown hK hP 0 rfl rfl 6 (by decide) (hts _ jq_4_10) (fun _ h9 => h9) rfl dX2_beginHolding_6 ?_
  refine lv_iload_n hx hb dX2_beginHolding_9 rfl (lv_at hl 2 rfl) ?_
  refine jVpI C dX2_beginHolding_10 (kt_X5_get l D G (a 24) (a 25) 24 (Nat.le_of_ble_eq_true rfl) (M 12) v2) jy_X5_get jq_6_20 jq_6_13 jq_6_14 ⟨rfl, rfl, Nat.le_of_ble_eq_true rfl, Nat.le_of_ble_eq_true rfl⟩ ⟨Nat.le_of_ble_eq_true rfl, Nat.le_of_ble_eq_true rfl⟩ (sX2_12 hP)  (ci := 7) (iw := 0) rfl rfl rfl hl (rest := [.int v2, .ref (a 24)]) rfl (Nat.le_of_ble_eq_true rfl) ?_
  refine lv_iconst (v := 1) hx hb dX2_beginHolding_13 (by decide) ?_
  refine lv_iload_n hx hb dX2_beginHolding_14 rfl (lv_at hl 1 rfl) ?_
  refine lv_ishl hx hb dX2_beginHolding_15 ?_
  refine lv_ior hx hb dX2_beginHolding_16 ?_
  refine jVmV C dX2_beginHolding_17 (kt_X5_set l D G (a 24) (a 25) 24 (Nat.le_of_ble_eq_true rfl) (M 12) v2 ((rg 24 (M 12) v2) ||| ((1 : Int32) <<< (v1 &&& 31)))) jy_X5_set jq_14_17 jq_5_4 jq_5_5 ⟨rfl, rfl, Nat.le_of_ble_eq_true rfl, Nat.le_of_ble_eq_true rfl⟩ ⟨Nat.le_of_ble_eq_true rfl, Nat.le_of_ble_eq_true rfl⟩ (sX2_12 hP) (dX2_12 hD) hA hS (ci := 7) (iw := 0) rfl rfl rfl hl (rest := []) rfl (Nat.le_of_ble_eq_true rfl) (fun H locs hQ hz hkp hS => ?_)
  obtain ⟨M3, e7, hV⟩ := jLet hV
  have hP : va_P D vwCl (wPerf a G M3) H := by rw [e7]; exact jX2_12 hP hD hkp hQ
  have hD : va_D A (wPerf a G M3) := jD (w := (wPerf a G M)) rfl hD
  refine lv_aload_n hx hb dX2_beginHolding_20 rfl (lv_at hl 0 rfl) ?_
  refine va_get (D := D) (ci := 4) (v := .ref (a 22)) (C := RX2) (T := TX2) (N := 7) hx hb hts ju_X2 hown hK hP 0 rfl rfl 5 (by decide) (hts _ jq_4_9) (fun _ h9 => h9) rfl dX2_beginHolding_21 ?_
  refine lv_iload_n hx hb dX2_beginHolding_24 rfl (lv_at hl 2 rfl) ?_
  refine lv_iload_n hx hb dX2_beginHolding_25 rfl (lv_at hl 3 rfl) ?_
  refine jVmV C dX2_beginHolding_26 (kt_X5_add l D G (a 22) (a 23) 24 (Nat.le_of_ble_eq_true rfl) (M3 11) v2 v3) jy_X5_add jq_16_12 jq_16_13 jq_16_14 ⟨rfl, rfl, Nat.le_of_ble_eq_true rfl, Nat.le_of_ble_eq_true rfl⟩ ⟨Nat.le_of_ble_eq_true rfl, Nat.le_of_ble_eq_true rfl⟩ (sX2_11 hP) (dX2_11 hD) hA hS (ci := 7) (iw := 0) rfl rfl rfl hl (rest := []) rfl (Nat.le_of_ble_eq_true rfl) (fun H locs hQ hz hkp hS => ?_)
  obtain ⟨M5, e6, hV⟩ := jLet hV
  have hP : va_P D vwCl (wPerf a G M5) H := by rw [e6]; exact jX2_11 hP hD hkp hQ
  have hD : va_D A (wPerf a G M5) := jD (w := (wPerf a G M3)) rfl hD
  cases hV
  exact mRetV C dX2_beginHolding_29 hP hS
