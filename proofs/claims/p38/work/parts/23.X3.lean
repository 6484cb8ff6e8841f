theorem jy_X3_has : jY yX3_has cX3_has 2 (some .boolean) 1 := ⟨by decide +kernel, jq_12_23, jq_2_20⟩
def F_X3_has (N : Nat)  (M : Nat → Nat → Int32) (v1 : Int32) : Option Int32 := (if isB (jIn v1 (0 : Int32) ((M 0 2) - (1 : Int32))) = true then (some (jIn v1 (0 : Int32) ((M 0 2) - (1 : Int32)))) else none)
set_option maxHeartbeats 4000000 in
set_option maxRecDepth 100000 in
theorem k_X3_has (l : Launch) (D : va_G) (G : Nat → ClassId) (a : Nat → Nat) (N : Nat) (M : Nat → Nat → Int32) (v1 : Int32) (r : Int32) (hV : F_X3_has N  M v1 = some r) : pM l yX3_has (jws yX3_has cX3_has 2 (some .boolean)) ({ frames := 1, cells := 0, slots := 0, locals := 22 } : Room) [.ref (a 36), .int v1] D G (wProd a G M) (some (.int r)) := by
  refine pM_of (by decide +kernel) (Nat.le_of_ble_eq_true rfl) (fun p e s m args below meth c ls C hP hl => ?_)
  have C : Cx p s m args meth c cX3_has 2 RX3 (some .boolean) D G := C
  obtain ⟨hx, hb, hr, hml, hts, hown, hlocks, hK0⟩ := id C
  have hK := hK0.1
  have hl : lv_has ls 2 [(0, .ref (a 36)), (1, .int v1)] := hl
  rw [F_X3_has] at hV
  refine lv_iload_n hx hb dX3_has_0 rfl (lv_at hl 1 rfl) ?_
  refine lv_iconst (v := 0) hx hb dX3_has_1 (by decide) ?_
  refine lv_aload_n hx hb dX3_has_2 rfl (lv_at hl 0 rfl) ?_
  refine va_get (D := D) (ci := 5) (v := .int (M 0 2)) (C := RX3) (T := TX3) (N := 6) hx hb hts ju_X3 hown hK hP 0 rfl rfl 0 (by decide) (hts _ jq_7_19) (fun _ h9 => h9) rfl dX3_has_3 ?_
  refine lv_iconst (v := 1) hx hb dX3_has_6 (by decide) ?_
  refine lv_isub hx hb dX3_has_7 ?_
  refine jSpNI C dX3_has_8 (host := "TheatreSeasons") (kt_X8_isWithin l D G    v1 (0 : Int32) ((M 0 2) - (1 : Int32))) jy_X8_isWithin jn_43 jq_10_20 ⟨rfl, rfl, Nat.le_of_ble_eq_true rfl, Nat.le_of_ble_eq_true rfl⟩ ⟨Nat.le_of_ble_eq_true rfl, Nat.le_of_ble_eq_true rfl⟩ jE  hl (rest := []) rfl (Nat.le_of_ble_eq_true rfl) ?_
  obtain ⟨g2, hV⟩ := jIf hV
  exact pRet C rfl dX3_has_11 (isB_n g2) (Option.some.inj hV)
theorem jy_X3_add : jY yX3_add cX3_add 6 (some .int) 4 := ⟨by decide +kernel, jq_11_1, jq_2_20⟩
def F_X3_add (N : Nat)  (M : Nat → Nat → Int32) (v1 v2 v3 v4 : Int32) : Option (Int32 × (Nat → Nat → Int32)) := (jlet (u1 M 2 (rs 8 (M 2) (M 0 2) v1)) (fun M2 => (jlet (u1 M2 3 (rs 8 (M2 3) (M 0 2) v2)) (fun M4 => (jlet (u1 M4 4 (rs 8 (M4 4) (M 0 2) v3)) (fun M6 => (jlet (u1 M6 5 (rs 8 (M6 5) (M 0 2) v4)) (fun M8 => (jlet (u1 M8 6 (rs 8 (M8 6) (M 0 2) (0 : Int32))) (fun M10 => (jlet (stF M10 2 ((M10 0 2) + (1 : Int32))) (fun M11 => (some ((M 0 2), M11))))))))))))))
set_option maxHeartbeats 4000000 in
set_option maxRecDepth 100000 in
theorem k_X3_add (l : Launch) (D : va_G) (G : Nat → ClassId) (a : Nat → Nat) (N : Nat) (M : Nat → Nat → Int32) (v1 v2 v3 v4 : Int32) (r : (Int32 × (Nat → Nat → Int32))) (hV : F_X3_add N  M v1 v2 v3 v4 = some r) : mM l yX3_add (jws yX3_add cX3_add 6 (some .int)) ({ frames := 1, cells := 0, slots := 0, locals := 22 } : Room) [.ref (a 36), .int v1, .int v2, .int v3, .int v4] D G (wProd a G M) (wProd a G r.2) (some (.int r.1)) := by
  refine mM_of (by decide +kernel) (Nat.le_of_ble_eq_true rfl) (fun p e s m args below meth c ls A C hP hD hA hl => ?_)
  have C : Cx p s m args meth c cX3_add 6 RX3 (some .int) D G := C
  have hS : va_S A s.heap s.heap [] := va_S.rf
  obtain ⟨hx, hb, hr, hml, hts, hown, hlocks, hK0⟩ := id C
  have hK := hK0.1
  have hl : lv_has ls 6 [(0, .ref (a 36)), (1, .int v1), (2, .int v2), (3, .int v3), (4, .int v4)] := hl
  rw [F_X3_add] at hV
  refine lv_aload_n hx hb dX3_add_0 rfl (lv_at hl 0 rfl) ?_
  refine va_get (D := D) (ci := 5) (v := .int (M 0 2)) (C := RX3) (T := TX3) (N := 6) hx hb hts ju_X3 hown hK hP 0 rfl rfl 0 (by decide) (hts _ jq_7_19) (fun _ h9 => h9) rfl dX3_add_1 ?_
  refine lv_istore (lv' := [(5, .int (M 0 2)), (0, .ref (a 36)), (1, .int v1), (2, .int v2), (3, .int v3), (4, .int v4)]) hx hb dX3_add_4 hl (by decide) rfl (fun ls hl => ?_)
  refine lv_aload_n hx hb dX3_add_6 rfl (lv_at hl 1 rfl) ?_
  refine va_get (D := D) (ci := 5) (v := .ref (a 4)) (C := RX3) (T := TX3) (N := 6) hx hb hts ju_X3 hown hK hP 0 rfl rfl 1 (by decide) (hts _ jq_3_19) (fun _ h9 => h9) rfl dX3_add_7 ?_
  refine lv_iload hx hb dX3_add_10 (lv_at hl 0 rfl) ?_
  refine lv_iload_n hx hb dX3_add_12 rfl (lv_at hl 2 rfl) ?_
  refine jVmV C dX3_add_13 (kt_X5_set l D G (a 4) (a 5) 8 (Nat.le_of_ble_eq_true rfl) (M 2) (M 0 2) v1) jy_X5_set jq_11_2 jq_5_4 jq_5_5 ⟨rfl, rfl, Nat.le_of_ble_eq_true rfl, Nat.le_of_ble_eq_true rfl⟩ ⟨Nat.le_of_ble_eq_true rfl, Nat.le_of_ble_eq_true rfl⟩ (sX3_2 hP) (dX3_2 hD) hA hS (ci := 7) (iw := 0) rfl rfl rfl hl (rest := []) rfl (Nat.le_of_ble_eq_true rfl) (fun H locs hQ hz hkp hS => ?_)
  obtain ⟨M2, e17, hV⟩ := jLet hV
  have hP : va_P D vwCl (wProd a G M2) H := by rw [e17]; exact jX3_2 hP hD hkp hQ
  have hD : va_D A (wProd a G M2) := jD (w := (wProd a G M)) rfl hD
  refine lv_aload_n hx hb dX3_add_16 rfl (lv_at hl 1 rfl) ?_
  refine va_get (D := D) (ci := 5) (v := .ref (a 6)) (C := RX3) (T := TX3) (N := 6) hx hb hts ju_X3 hown hK hP 0 rfl rfl 2 (by decide) (hts _ jq_3_20) (fun _ h9 => h9) rfl dX3_add_17 ?_
  refine lv_iload hx hb dX3_add_20 (lv_at hl 0 rfl) ?_
  refine lv_iload_n hx hb dX3_add_22 rfl (lv_at hl 3 rfl) ?_
  refine jVmV C dX3_add_23 (kt_X5_set l D G (a 6) (a 7) 8 (Nat.le_of_ble_eq_true rfl) (M2 3) (M 0 2) v2) jy_X5_set jq_11_2 jq_5_4 jq_5_5 ⟨rfl, rfl, Nat.le_of_ble_eq_true rfl, Nat.le_of_ble_eq_true rfl⟩ ⟨Nat.le_of_ble_eq_true rfl, Nat.le_of_ble_eq_true rfl⟩ (sX3_3 hP) (dX3_3 hD) hA hS (ci := 7) (iw := 0) rfl rfl rfl hl (rest := []) rfl (Nat.le_of_ble_eq_true rfl) (fun H locs hQ hz hkp hS => ?_)
  obtain ⟨M4, e16, hV⟩ := jLet hV
  have hP : va_P D vwCl (wProd a G M4) H := by rw [e16]; exact jX3_3 hP hD hkp hQ
  have hD : va_D A (wProd a G M4) := jD (w := (wProd a G M2)) rfl hD
  refine lv_aload_n hx hb dX3_add_26 rfl (lv_at hl 1 rfl) ?_
  refine va_get (D := D) (ci := 5) (v := .ref (a 8)) (C := RX3) (T := TX3) (N := 6) hx hb hts ju_X3 hown hK hP 0 rfl rfl 3 (by decide) (hts _ jq_3_21) (fun _ h9 => h9) rfl dX3_add_27 ?_
  refine lv_iload hx hb dX3_add_30 (lv_at hl 0 rfl) ?_
  refine lv_iload_n hx hb dX3_add_32 rfl (lv_at hl 4 rfl) ?_
  refine jVmV C dX3_add_33 (kt_X5_set l D G (a 8) (a 9) 8 (Nat.le_of_ble_eq_true rfl) (M4 4) (M 0 2) v3) jy_X5_set jq_11_2 jq_5_4 jq_5_5 ⟨rfl, rfl, Nat.le_of_ble_eq_true rfl, Nat.le_of_ble_eq_true rfl⟩ ⟨Nat.le_of_ble_eq_true rfl, Nat.le_of_ble_eq_true rfl⟩ (sX3_4 hP) (dX3_4 hD) hA hS (ci := 7) (iw := 0) rfl rfl rfl hl (rest := []) rfl (Nat.le_of_ble_eq_true rfl) (fun H locs hQ hz hkp hS => ?_)
  obtain ⟨M6, e15, hV⟩ := jLet hV
  have hP : va_P D vwCl (wProd a G M6) H := by rw [e15]; exact jX3_4 hP hD hkp hQ
  have hD : va_D A (wProd a G M6) := jD (w := (wProd a G M4)) rfl hD
  refine lv_aload_n hx hb dX3_add_36 rfl (lv_at hl 1 rfl) ?_
  refine va_get (D := D) (ci := 5) (v := .ref (a 10)) (C := RX3) (T := TX3) (N := 6) hx hb hts ju_X3 hown hK hP 0 rfl rfl 4 (by decide) (hts _ jq_3_22) (fun _ h9 => h9) rfl dX3_add_37 ?_
  refine lv_iload hx hb dX3_add_40 (lv_at hl 0 rfl) ?_
  refine lv_iload hx hb dX3_add_42 (lv_at hl 5 rfl) ?_
  refine jVmV C dX3_add_44 (kt_X5_set l D G (a 10) (a 11) 8 (Nat.le_of_ble_eq_true rfl) (M6 5) (M 0 2) v4) jy_X5_set jq_11_2 jq_5_4 jq_5_5 ⟨rfl, rfl, Nat.le_of_ble_eq_true rfl, Nat.le_of_ble_eq_true rfl⟩ ⟨Nat.le_of_ble_eq_true rfl, Nat.le_of_ble_eq_true rfl⟩ (sX3_5 hP) (dX3_5 hD) hA hS (ci := 7) (iw := 0) rfl rfl rfl hl (rest := []) rfl (Nat.le_of_ble_eq_true rfl) (fun H locs hQ hz hkp hS => ?_)
  obtain ⟨M8, e14, hV⟩ := jLet hV
  have hP : va_P D vwCl (wProd a G M8) H := by rw [e14]; exact jX3_5 hP hD hkp hQ
  have hD : va_D A (wProd a G M8) := jD (w := (wProd a G M6)) rfl hD
  refine lv_aload_n hx hb dX3_add_47 rfl (lv_at hl 1 rfl) ?_
  refine va_get (D := D) (ci := 5) (v := .ref (a 12)) (C := RX3) (T := TX3) (N := 6) hx hb hts ju_X3 hown hK hP 0 rfl rfl 5 (by decide) (hts _ jq_3_23) (fun _ h9 => h9) rfl dX3_add_48 ?_
  refine lv_iload hx hb dX3_add_51 (lv_at hl 0 rfl) ?_
  refine lv_iconst (v := 0) hx hb dX3_add_53 (by decide) ?_
  refine jVmV C dX3_add_54 (kt_X5_set l D G (a 12) (a 13) 8 (Nat.le_of_ble_eq_true rfl) (M8 6) (M 0 2) (0 : Int32)) jy_X5_set jq_11_2 jq_5_4 jq_5_5 ⟨rfl, rfl, Nat.le_of_ble_eq_true rfl, Nat.le_of_ble_eq_true rfl⟩ ⟨Nat.le_of_ble_eq_true rfl, Nat.le_of_ble_eq_true rfl⟩ (sX3_6 hP) (dX3_6 hD) hA hS (ci := 7) (iw := 0) rfl rfl rfl hl (rest := []) rfl (Nat.le_of_ble_eq_true rfl) (fun H locs hQ hz hkp hS => ?_)
  obtain ⟨M10, e13, hV⟩ := jLet hV
  have hP : va_P D vwCl (wProd a G M10) H := by rw [e13]; exact jX3_6 hP hD hkp hQ
  have hD : va_D A (wProd a G M10) := jD (w := (wProd a G M8)) rfl hD
  refine lv_aload_n hx hb dX3_add_57 rfl (lv_at hl 1 rfl) ?_
  refine lv_dup hx hb dX3_add_58 rfl ?_
  refine va_get (D := D) (ci := 5) (v := .int (M10 0 2)) (C := RX3) (T := TX3) (N := 6) hx hb hts ju_X3 hown hK hP 0 rfl rfl 0 (by decide) (hts _ jq_7_19) (fun _ h9 => h9) rfl dX3_add_59 ?_
  refine lv_iconst (v := 1) hx hb dX3_add_62 (by decide) ?_
  refine lv_iadd hx hb dX3_add_63 ?_
  refine va_put (D := D) (ci := 5) (v := .int ((M10 0 2) + (1 : Int32))) (ty := .int) (C := RX3) (T := TX3) (N := 6) hx hb hts ju_X3 tyX3 tyX3_ok nmX3 hown hK hP hD hS 0 rfl rfl 0 (by decide) (hts _ jq_7_19) (fun _ h9 => h9) rfl (by decide +kernel) rfl rfl (Nat.le_of_ble_eq_true rfl) dX3_add_64 (fun H locs hP hD hS => ?_)
  obtain ⟨M11, e12, hV⟩ := jLet hV
  have hP : va_P D vwCl (wProd a G M11) H := by rw [e12]; exact hP
  have hD : va_D A (wProd a G M11) := by rw [e12]; exact hD
  refine lv_iload hx hb dX3_add_67 (lv_at hl 0 rfl) ?_
  cases hV
  exact mRet C rfl dX3_add_69 rfl rfl hP hS
theorem jy_X3_isStored : jY yX3_isStored cX3_isStored 5 (some .boolean) 2 := ⟨by decide +kernel, jq_7_23, jq_2_20⟩
def D_X3_isStored_41 (N : Nat)  (v2 : Int32) (v3 : Int32) (s0 : Int32) : Option Int32 := (if v2 = 0 then (some (0 : Int32)) else (if v3 = 0 then (some (0 : Int32)) else (if s0 = 0 then (some (1 : Int32)) else (some (0 : Int32)))))
set_option maxHeartbeats 4000000 in
set_option maxRecDepth 100000 in
theorem B_X3_isStored_41 {p : Program} {l : Launch} {e : Env} {s : State} {m : MethodId} {args : Array Value} {below : List Frame} {meth : Method} {c : Code} {D : va_G} {G : Nat → ClassId} (C : Cx p s m args meth c cX3_isStored 5 RX3 (some .boolean) D G) (N : Nat)  (r : Int32) : (∀ (v2 : Int32) (v3 : Int32) (s0 : Int32) (ls : Array Slot), lv_has ls 5 [(2, .int v2), (3, .int v3)] → D_X3_isStored_41 N   v2 v3 s0 = some r → W p l e ({ frames := 0, cells := 0, slots := 0, locals := 0 } : Room) s m args below meth c s.heap [] 0 0 (MQ below (QcRd (some (.int r))) args s 0 0 nofree) (F0 m 41 ls [.int s0])) := by
  have C := C
  obtain ⟨hx, hb, hr, hml, hts, hown, hlocks, hK0⟩ := id C
  have hK := hK0.1
  intro v2 v3 s0 ls hl hV
  rw [D_X3_isStored_41] at hV
  refine lv_istore (lv' := [(4, .int s0), (2, .int v2), (3, .int v3)]) hx hb dX3_isStored_41 hl (by decide) rfl (fun ls hl => ?_)
  refine lv_iload_n hx hb dX3_isStored_43 rfl (lv_at hl 1 rfl) ?_
  refine lv_if_eq (tgt := 60) hx hb dX3_isStored_44 (by decide) (fun c3 => ?_) (fun c3 => ?_)
  · have hV := jT1 hV c3
    refine lv_iconst (v := 0) hx hb dX3_isStored_60 (by decide) ?_
    exact pRet C rfl dX3_isStored_61 rfl (Option.some.inj hV)
  · have hV := jF1 hV c3
    refine lv_iload_n hx hb dX3_isStored_47 rfl (lv_at hl 2 rfl) ?_
    refine lv_if_eq (tgt := 60) hx hb dX3_isStored_48 (by decide) (fun c2 => ?_) (fun c2 => ?_)
    · have hV := jT1 hV c2
      refine lv_iconst (v := 0) hx hb dX3_isStored_60 (by decide) ?_
      exact pRet C rfl dX3_isStored_61 rfl (Option.some.inj hV)
    · have hV := jF1 hV c2
      refine lv_iload hx hb dX3_isStored_51 (lv_at hl 0 rfl) ?_
      refine lv_if_ne (tgt := 60) hx hb dX3_isStored_53 (by decide) (fun c1 => ?_) (fun c1 => ?_)
      · have hV := jF1 hV c1
        refine lv_iconst (v := 0) hx hb dX3_isStored_60 (by decide) ?_
        exact pRet C rfl dX3_isStored_61 rfl (Option.some.inj hV)
      · have hV := jT1 hV c1
        refine lv_iconst (v := 1) hx hb dX3_isStored_56 (by decide) ?_
        refine lv_goto (tgt := 61) hx hb dX3_isStored_57 (by decide) ?_
        exact pRet C rfl dX3_isStored_61 rfl (Option.some.inj hV)
def D_X3_isStored_27 (N : Nat)  (v0 : Int32) (v1 : Int32) (v2 : Int32) (s0 : Int32) : Option Int32 := (if ((v0 >>> (v1 &&& 31)) &&& (1 : Int32)) = 0 then (D_X3_isStored_41 N    v2 s0 (0 : Int32)) else (D_X3_isStored_41 N    v2 s0 (1 : Int32)))
set_option maxHeartbeats 4000000 in
set_option maxRecDepth 100000 in
theorem B_X3_isStored_27 {p : Program} {l : Launch} {e : Env} {s : State} {m : MethodId} {args : Array Value} {below : List Frame} {meth : Method} {c : Code} {D : va_G} {G : Nat → ClassId} (C : Cx p s m args meth c cX3_isStored 5 RX3 (some .boolean) D G) (N : Nat)  (r : Int32) : (∀ (v0 : Int32) (v1 : Int32) (v2 : Int32) (s0 : Int32) (ls : Array Slot), lv_has ls 5 [(0, .int v0), (1, .int v1), (2, .int v2)] → D_X3_isStored_27 N   v0 v1 v2 s0 = some r → W p l e ({ frames := 0, cells := 0, slots := 0, locals := 0 } : Room) s m args below meth c s.heap [] 0 0 (MQ below (QcRd (some (.int r))) args s 0 0 nofree) (F0 m 27 ls [.int s0])) := by
  have C := C
  obtain ⟨hx, hb, hr, hml, hts, hown, hlocks, hK0⟩ := id C
  have hK := hK0.1
  intro v0 v1 v2 s0 ls hl hV
  rw [D_X3_isStored_27] at hV
  refine lv_istore_n (lv' := [(3, .int s0), (0, .int v0), (1, .int v1), (2, .int v2)]) hx hb dX3_isStored_27 rfl hl (by decide) rfl (fun ls hl => ?_)
  refine lv_iload_n hx hb dX3_isStored_28 rfl (lv_at hl 1 rfl) ?_
  refine lv_iload_n hx hb dX3_isStored_29 rfl (lv_at hl 2 rfl) ?_
  refine lv_ishr hx hb dX3_isStored_30 ?_
  refine lv_iconst (v := 1) hx hb dX3_isStored_31 (by decide) ?_
  refine lv_iand hx hb dX3_isStored_32 ?_
  refine lv_if_eq (tgt := 40) hx hb dX3_isStored_33 (by decide) (fun c4 => ?_) (fun c4 => ?_)
  · have hV := jT1 hV c4
    refine lv_iconst (v := 0) hx hb dX3_isStored_40 (by decide) ?_
    exact B_X3_isStored_41 C  N   r    v2 s0 (0 : Int32) _ (lv_sub hl [3, 0] rfl) hV
  · have hV := jF1 hV c4
    refine lv_iconst (v := 1) hx hb dX3_isStored_36 (by decide) ?_
    refine lv_goto (tgt := 41) hx hb dX3_isStored_37 (by decide) ?_
    exact B_X3_isStored_41 C  N   r    v2 s0 (1 : Int32) _ (lv_sub hl [3, 0] rfl) hV
def D_X3_isStored_15 (N : Nat)  (v0 : Int32) (v1 : Int32) (s0 : Int32) : Option Int32 := (if (v0 >>> (v1 &&& 31)) = 0 then (D_X3_isStored_27 N    v0 v1 s0 (0 : Int32)) else (D_X3_isStored_27 N    v0 v1 s0 (1 : Int32)))
set_option maxHeartbeats 4000000 in
set_option maxRecDepth 100000 in
theorem B_X3_isStored_15 {p : Program} {l : Launch} {e : Env} {s : State} {m : MethodId} {args : Array Value} {below : List Frame} {meth : Method} {c : Code} {D : va_G} {G : Nat → ClassId} (C : Cx p s m args meth c cX3_isStored 5 RX3 (some .boolean) D G) (N : Nat)  (r : Int32) : (∀ (v0 : Int32) (v1 : Int32) (s0 : Int32) (ls : Array Slot), lv_has ls 5 [(0, .int v0), (1, .int v1)] → D_X3_isStored_15 N   v0 v1 s0 = some r → W p l e ({ frames := 0, cells := 0, slots := 0, locals := 0 } : Room) s m args below meth c s.heap [] 0 0 (MQ below (QcRd (some (.int r))) args s 0 0 nofree) (F0 m 15 ls [.int s0])) := by
  have C := C
  obtain ⟨hx, hb, hr, hml, hts, hown, hlocks, hK0⟩ := id C
  have hK := hK0.1
  intro v0 v1 s0 ls hl hV
  rw [D_X3_isStored_15] at hV
  refine lv_istore_n (lv' := [(2, .int s0), (0, .int v0), (1, .int v1)]) hx hb dX3_isStored_15 rfl hl (by decide) rfl (fun ls hl => ?_)
  refine lv_iload_n hx hb dX3_isStored_16 rfl (lv_at hl 1 rfl) ?_
  refine lv_iload_n hx hb dX3_isStored_17 rfl (lv_at hl 2 rfl) ?_
  refine lv_ishr hx hb dX3_isStored_18 ?_
  refine lv_if_eq (tgt := 26) hx hb dX3_isStored_19 (by decide) (fun c5 => ?_) (fun c5 => ?_)
  · have hV := jT1 hV c5
    refine lv_iconst (v := 0) hx hb dX3_isStored_26 (by decide) ?_
    exact B_X3_isStored_27 C  N   r    v0 v1 s0 (0 : Int32) _ (lv_sub hl [1, 2, 0] rfl) hV
  · have hV := jF1 hV c5
    refine lv_iconst (v := 1) hx hb dX3_isStored_22 (by decide) ?_
    refine lv_goto (tgt := 27) hx hb dX3_isStored_23 (by decide) ?_
    exact B_X3_isStored_27 C  N   r    v0 v1 s0 (1 : Int32) _ (lv_sub hl [1, 2, 0] rfl) hV
def F_X3_isStored (N : Nat)  (v0 v1 : Int32) : Option Int32 := (if (v0 &&& (((1 : Int32) <<< (v1 &&& 31)) - (1 : Int32))) = 0 then (D_X3_isStored_15 N    v0 v1 (0 : Int32)) else (D_X3_isStored_15 N    v0 v1 (1 : Int32)))
set_option maxHeartbeats 4000000 in
set_option maxRecDepth 100000 in
theorem k_X3_isStored (l : Launch) (D : va_G) (G : Nat → ClassId)  (N : Nat) (v0 v1 : Int32) (r : Int32) (hV : F_X3_isStored N  v0 v1 = some r) : pM l yX3_isStored (jws yX3_isStored cX3_isStored 5 (some .boolean)) ({ frames := 0, cells := 0, slots := 0, locals := 0 } : Room) [.int v0, .int v1] D G ([] : va_W) (some (.int r)) := by
  refine pM_of (by decide +kernel) (Nat.le_of_ble_eq_true rfl) (fun p e s m args below meth c ls C hP hl => ?_)
  have C : Cx p s m args meth c cX3_isStored 5 RX3 (some .boolean) D G := C
  obtain ⟨hx, hb, hr, hml, hts, hown, hlocks, hK0⟩ := id C
  have hK := hK0.1
  have hl : lv_has ls 5 [(0, .int v0), (1, .int v1)] := hl
  rw [F_X3_isStored] at hV
  refine lv_iload_n hx hb dX3_isStored_0 rfl (lv_at hl 0 rfl) ?_
  refine lv_iconst (v := 1) hx hb dX3_isStored_1 (by decide) ?_
  refine lv_iload_n hx hb dX3_isStored_2 rfl (lv_at hl 1 rfl) ?_
  refine lv_ishl hx hb dX3_isStored_3 ?_
  refine lv_iconst (v := 1) hx hb dX3_isStored_4 (by decide) ?_
  refine lv_isub hx hb dX3_isStored_5 ?_
  refine lv_iand hx hb dX3_isStored_6 ?_
  refine lv_if_eq (tgt := 14) hx hb dX3_isStored_7 (by decide) (fun c6 => ?_) (fun c6 => ?_)
  · have hV := jT1 hV c6
    refine lv_iconst (v := 0) hx hb dX3_isStored_14 (by decide) ?_
    exact B_X3_isStored_15 C  N   r    v0 v1 (0 : Int32) _ (lv_sub hl [0, 1] rfl) hV
  · have hV := jF1 hV c6
    refine lv_iconst (v := 1) hx hb dX3_isStored_10 (by decide) ?_
    refine lv_goto (tgt := 15) hx hb dX3_isStored_11 (by decide) ?_
    exact B_X3_isStored_15 C  N   r    v0 v1 (1 : Int32) _ (lv_sub hl [0, 1] rfl) hV
theorem jy_X3_loadIf : jY yX3_loadIf cX3_loadIf 7 (some .int) 3 := ⟨by decide +kernel, jq_7_18, jq_2_20⟩
def D_X3_loadIf_34 (N : Nat)  (M : Nat → Nat → Int32) (k6 : Int32 → Int32 → Int32 → Int32 → Int32 → Option Int32) (v1 : Int32) (v2 : Int32) (v3 : Int32) (v4 : Int32) (v5 : Int32) (s0 : Int32) : Option Int32 := ((F_X3_isStored N  s0 v1).bind (fun r1 => (if r1 = 0 then (k6  v1 v2 v3 v4 (v5 + 1)) else (k6  v1 v2 v3 (v4 + (rg 8 (M 2) v5)) (v5 + 1)))))
set_option maxHeartbeats 4000000 in
set_option maxRecDepth 100000 in
theorem B_X3_loadIf_34 {p : Program} {l : Launch} {e : Env} {s : State} {m : MethodId} {args : Array Value} {below : List Frame} {meth : Method} {c : Code} {D : va_G} {G : Nat → ClassId} (C : Cx p s m args meth c cX3_loadIf 7 RX3 (some .int) D G) (N : Nat) (a : Nat → Nat) (M : Nat → Nat → Int32) (r : Int32) (hP : va_P D vwCl (wProd a G M) s.heap) (k6 : Int32 → Int32 → Int32 → Int32 → Int32 → Option Int32) (hk6 : (∀ (v1 : Int32) (v2 : Int32) (v3 : Int32) (v4 : Int32) (v5 : Int32) (ls : Array Slot), lv_has ls 7 [(0, .ref (a 36)), (1, .int v1), (2, .int v2), (3, .int v3), (4, .int v4), (5, .int v5)] → k6 v1 v2 v3 v4 v5 = some r → W p l e ({ frames := 1, cells := 0, slots := 0, locals := 24 } : Room) s m args below meth c s.heap [] 0 0 (MQ below (QcRd (some (.int r))) args s 0 0 nofree) (F0 m 6 ls []))) : (∀ (v1 : Int32) (v2 : Int32) (v3 : Int32) (v4 : Int32) (v5 : Int32) (s0 : Int32) (ls : Array Slot), lv_has ls 7 [(0, .ref (a 36)), (1, .int v1), (2, .int v2), (3, .int v3), (4, .int v4), (5, .int v5)] → D_X3_loadIf_34 N  M k6 v1 v2 v3 v4 v5 s0 = some r → W p l e ({ frames := 1, cells := 0, slots := 0, locals := 24 } : Room) s m args below meth c s.heap [] 0 0 (MQ below (QcRd (some (.int r))) args s 0 0 nofree) (F0 m 34 ls [.int s0])) := by
  have C := C
  obtain ⟨hx, hb, hr, hml, hts, hown, hlocks, hK0⟩ := id C
  have hK := hK0.1
  intro v1 v2 v3 v4 v5 s0 ls hl hV
  rw [D_X3_loadIf_34] at hV
  refine lv_istore (lv' := [(6, .int s0), (0, .ref (a 36)), (1, .int v1), (2, .int v2), (3, .int v3), (4, .int v4), (5, .int v5)]) hx hb dX3_loadIf_34 hl (by decide) rfl (fun ls hl => ?_)
  refine lv_iload hx hb dX3_loadIf_36 (lv_at hl 0 rfl) ?_
  refine lv_iload_n hx hb dX3_loadIf_38 rfl (lv_at hl 2 rfl) ?_
  obtain ⟨r1, hr1, hV⟩ := jBind hV
  refine jSpI C dX3_loadIf_39 (k_X3_isStored l D G  N  s0 v1 r1 hr1) jy_X3_isStored jq_7_21 jq_7_22 ⟨rfl, rfl, Nat.le_of_ble_eq_true rfl, Nat.le_of_ble_eq_true rfl⟩ ⟨Nat.le_of_ble_eq_true rfl, Nat.le_of_ble_eq_true rfl⟩ jE  hl (rest := []) rfl (Nat.le_of_ble_eq_true rfl) ?_
  refine lv_if_eq (tgt := 59) hx hb dX3_loadIf_42 (by decide) (fun c3 => ?_) (fun c3 => ?_)
  · have hV := jT1 hV c3
    refine lv_iinc (v := (v5 + 1)) (lv' := [(5, .int (v5 + 1)), (6, .int s0), (0, .ref (a 36)), (1, .int v1), (2, .int v2), (3, .int v3), (4, .int v4)]) hx hb dX3_loadIf_59 hl (k := 6) rfl rfl (by decide) rfl (fun ls hl => ?_)
    refine lv_goto (tgt := 6) hx hb dX3_loadIf_62 (by decide) ?_
    exact hk6  v1 v2 v3 v4 (v5 + 1) _ (lv_sub hl [2, 3, 4, 5, 6, 0] rfl) hV
  · have hV := jF1 hV c3
    refine lv_iload hx hb dX3_loadIf_45 (lv_at hl 5 rfl) ?_
    refine lv_aload_n hx hb dX3_loadIf_47 rfl (lv_at hl 1 rfl) ?_
    refine va_get (D := D) (ci := 5) (v := .ref (a 4)) (C := RX3) (T := TX3) (N := 6) hx hb hts ju_X3 hown hK hP 0 rfl rfl 1 (by decide) (hts _ jq_3_19) (fun _ h9 => h9) rfl dX3_loadIf_48 ?_
    refine lv_iload hx hb dX3_loadIf_51 (lv_at hl 6 rfl) ?_
    refine jVpI C dX3_loadIf_53 (kt_X5_get l D G (a 4) (a 5) 8 (Nat.le_of_ble_eq_true rfl) (M 2) v5) jy_X5_get jq_7_20 jq_6_13 jq_6_14 ⟨rfl, rfl, Nat.le_of_ble_eq_true rfl, Nat.le_of_ble_eq_true rfl⟩ ⟨Nat.le_of_ble_eq_true rfl, Nat.le_of_ble_eq_true rfl⟩ (sX3_2 hP)  (ci := 7) (iw := 0) rfl rfl rfl hl (rest := [.int v4]) rfl (Nat.le_of_ble_eq_true rfl) ?_
    refine lv_iadd hx hb dX3_loadIf_56 ?_
    refine lv_istore (lv' := [(4, .int (v4 + (rg 8 (M 2) v5))), (6, .int s0), (0, .ref (a 36)), (1, .int v1), (2, .int v2), (3, .int v3), (5, .int v5)]) hx hb dX3_loadIf_57 hl (by decide) rfl (fun ls hl => ?_)
    refine lv_iinc (v := (v5 + 1)) (lv' := [(5, .int (v5 + 1)), (4, .int (v4 + (rg 8 (M 2) v5))), (6, .int s0), (0, .ref (a 36)), (1, .int v1), (2, .int v2), (3, .int v3)]) hx hb dX3_loadIf_59 hl (k := 6) rfl rfl (by decide) rfl (fun ls hl => ?_)
    refine lv_goto (tgt := 6) hx hb dX3_loadIf_62 (by decide) ?_
    exact hk6  v1 v2 v3 (v4 + (rg 8 (M 2) v5)) (v5 + 1) _ (lv_sub hl [3, 4, 5, 6, 1, 0] rfl) hV
def D_X3_loadIf_6 (N : Nat)  (M : Nat → Nat → Int32) : Nat → Int32 → Int32 → Int32 → Int32 → Int32 → Option Int32
  | 0, _, _, _, _, _ => none
  | n + 1, v1, v2, v3, v4, v5 => (if (M 0 2) ≤ v5 then (some v4) else (if v5 = v2 then (D_X3_loadIf_34 N  M (D_X3_loadIf_6 N  M  n)  v1 v2 v3 v4 v5 v3) else (D_X3_loadIf_34 N  M (D_X3_loadIf_6 N  M  n)  v1 v2 v3 v4 v5 (rg 8 (M 6) v5))))
set_option maxHeartbeats 4000000 in
set_option maxRecDepth 100000 in
theorem B_X3_loadIf_6 {p : Program} {l : Launch} {e : Env} {s : State} {m : MethodId} {args : Array Value} {below : List Frame} {meth : Method} {c : Code} {D : va_G} {G : Nat → ClassId} (C : Cx p s m args meth c cX3_loadIf 7 RX3 (some .int) D G) (N : Nat) (a : Nat → Nat) (M : Nat → Nat → Int32) (r : Int32) (hP : va_P D vwCl (wProd a G M) s.heap) : (∀ (n : Nat) (v1 : Int32) (v2 : Int32) (v3 : Int32) (v4 : Int32) (v5 : Int32) (ls : Array Slot), lv_has ls 7 [(0, .ref (a 36)), (1, .int v1), (2, .int v2), (3, .int v3), (4, .int v4), (5, .int v5)] → D_X3_loadIf_6 N  M  n v1 v2 v3 v4 v5 = some r → W p l e ({ frames := 1, cells := 0, slots := 0, locals := 24 } : Room) s m args below meth c s.heap [] 0 0 (MQ below (QcRd (some (.int r))) args s 0 0 nofree) (F0 m 6 ls [])) := by
  have C := C
  obtain ⟨hx, hb, hr, hml, hts, hown, hlocks, hK0⟩ := id C
  have hK := hK0.1
  intro n
  induction n with
  | zero =>
    intro v1 v2 v3 v4 v5 ls hl hV
    rw [D_X3_loadIf_6] at hV
    cases hV
  | succ n ih =>
    intro v1 v2 v3 v4 v5 ls hl hV
    rw [D_X3_loadIf_6] at hV
    refine lv_iload hx hb dX3_loadIf_6 (lv_at hl 5 rfl) ?_
    refine lv_aload_n hx hb dX3_loadIf_8 rfl (lv_at hl 0 rfl) ?_
    refine va_get (D := D) (ci := 5) (v := .int (M 0 2)) (C := RX3) (T := TX3) (N := 6) hx hb hts ju_X3 hown hK hP 0 rfl rfl 0 (by decide) (hts _ jq_7_19) (fun _ h9 => h9) rfl dX3_loadIf_9 ?_
    refine lv_icmp_ge (tgt := 65) hx hb dX3_loadIf_12 (by decide) (fun c6 => ?_) (fun c6 => ?_)
    · have hV := jT1 hV c6
      refine lv_iload hx hb dX3_loadIf_65 (lv_at hl 4 rfl) ?_
      exact pRet C rfl dX3_loadIf_67 rfl (Option.some.inj hV)
    · have hV := jF1 hV c6
      refine lv_iload hx hb dX3_loadIf_15 (lv_at hl 5 rfl) ?_
      refine lv_iload_n hx hb dX3_loadIf_17 rfl (lv_at hl 2 rfl) ?_
      refine lv_icmp_ne (tgt := 25) hx hb dX3_loadIf_18 (by decide) (fun c5 => ?_) (fun c5 => ?_)
      · have hV := jF1 hV c5
        refine lv_aload_n hx hb dX3_loadIf_25 rfl (lv_at hl 0 rfl) ?_
        refine va_get (D := D) (ci := 5) (v := .ref (a 12)) (C := RX3) (T := TX3) (N := 6) hx hb hts ju_X3 hown hK hP 0 rfl rfl 5 (by decide) (hts _ jq_3_23) (fun _ h9 => h9) rfl dX3_loadIf_26 ?_
        refine lv_iload hx hb dX3_loadIf_29 (lv_at hl 5 rfl) ?_
        refine jVpI C dX3_loadIf_31 (kt_X5_get l D G (a 12) (a 13) 8 (Nat.le_of_ble_eq_true rfl) (M 6) v5) jy_X5_get jq_7_20 jq_6_13 jq_6_14 ⟨rfl, rfl, Nat.le_of_ble_eq_true rfl, Nat.le_of_ble_eq_true rfl⟩ ⟨Nat.le_of_ble_eq_true rfl, Nat.le_of_ble_eq_true rfl⟩ (sX3_6 hP)  (ci := 7) (iw := 0) rfl rfl rfl hl (rest := []) rfl (Nat.le_of_ble_eq_true rfl) ?_
        exact B_X3_loadIf_34 C  N a M r hP (D_X3_loadIf_6 N  M  n) ih  v1 v2 v3 v4 v5 (rg 8 (M 6) v5) _ (lv_sub hl [0, 1, 2, 3, 4, 5] rfl) hV
      · have hV := jT1 hV c5
        refine lv_iload_n hx hb dX3_loadIf_21 rfl (lv_at hl 3 rfl) ?_
        refine lv_goto (tgt := 34) hx hb dX3_loadIf_22 (by decide) ?_
        exact B_X3_loadIf_34 C  N a M r hP (D_X3_loadIf_6 N  M  n) ih  v1 v2 v3 v4 v5 v3 _ (lv_sub hl [0, 1, 2, 3, 4, 5] rfl) hV
def F_X3_loadIf (N : Nat)  (M : Nat → Nat → Int32) (v1 v2 v3 : Int32) : Option Int32 := (D_X3_loadIf_6 N  M  N  v1 v2 v3 (0 : Int32) (0 : Int32))
set_option maxHeartbeats 4000000 in
set_option maxRecDepth 100000 in
theorem k_X3_loadIf (l : Launch) (D : va_G) (G : Nat → ClassId) (a : Nat → Nat) (N : Nat) (M : Nat → Nat → Int32) (v1 v2 v3 : Int32) (r : Int32) (hV : F_X3_loadIf N  M v1 v2 v3 = some r) : pM l yX3_loadIf (jws yX3_loadIf cX3_loadIf 7 (some .int)) ({ frames := 1, cells := 0, slots := 0, locals := 24 } : Room) [.ref (a 36), .int v1, .int v2, .int v3] D G (wProd a G M) (some (.int r)) := by
  refine pM_of (by decide +kernel) (Nat.le_of_ble_eq_true rfl) (fun p e s m args below meth c ls C hP hl => ?_)
  have C : Cx p s m args meth c cX3_loadIf 7 RX3 (some .int) D G := C
  obtain ⟨hx, hb, hr, hml, hts, hown, hlocks, hK0⟩ := id C
  have hK := hK0.1
  have hl : lv_has ls 7 [(0, .ref (a 36)), (1, .int v1), (2, .int v2), (3, .int v3)] := hl
  rw [F_X3_loadIf] at hV
  refine lv_iconst (v := 0) hx hb dX3_loadIf_0 (by decide) ?_
  refine lv_istore (lv' := [(4, .int (0 : Int32)), (0, .ref (a 36)), (1, .int v1), (2, .int v2), (3, .int v3)]) hx hb dX3_loadIf_1 hl (by decide) rfl (fun ls hl => ?_)
  refine lv_iconst (v := 0) hx hb dX3_loadIf_3 (by decide) ?_
  refine lv_istore (lv' := [(5, .int (0 : Int32)), (4, .int (0 : Int32)), (0, .ref (a 36)), (1, .int v1), (2, .int v2), (3, .int v3)]) hx hb dX3_loadIf_4 hl (by decide) rfl (fun ls hl => ?_)
  exact B_X3_loadIf_6 C  N a M r hP   N  v1 v2 v3 (0 : Int32) (0 : Int32) _ (lv_sub hl [2, 3, 4, 5, 1, 0] rfl) hV
theorem jy_X3_peakIf : jY yX3_peakIf cX3_peakIf 5 (some .int) 2 := ⟨by decide +kernel, jq_7_13, jq_2_20⟩
def D_X3_peakIf_5 (N : Nat)  (M : Nat → Nat → Int32) : Nat → Int32 → Int32 → Int32 → Int32 → Option Int32
  | 0, _, _, _, _ => none
  | n + 1, v1, v2, v3, v4 => (if (30 : Int32) ≤ v4 then (some v3) else ((F_X3_loadIf N M v4 v1 v2).bind (fun r1 => (D_X3_peakIf_5 N  M  n  v1 v2 (if v3 < r1 then r1 else v3) (v4 + 1)))))
set_option maxHeartbeats 4000000 in
set_option maxRecDepth 100000 in
theorem B_X3_peakIf_5 {p : Program} {l : Launch} {e : Env} {s : State} {m : MethodId} {args : Array Value} {below : List Frame} {meth : Method} {c : Code} {D : va_G} {G : Nat → ClassId} (C : Cx p s m args meth c cX3_peakIf 5 RX3 (some .int) D G) (N : Nat) (a : Nat → Nat) (M : Nat → Nat → Int32) (r : Int32) (hP : va_P D vwCl (wProd a G M) s.heap) : (∀ (n : Nat) (v1 : Int32) (v2 : Int32) (v3 : Int32) (v4 : Int32) (ls : Array Slot), lv_has ls 5 [(0, .ref (a 36)), (1, .int v1), (2, .int v2), (3, .int v3), (4, .int v4)] → D_X3_peakIf_5 N  M  n v1 v2 v3 v4 = some r → W p l e ({ frames := 2, cells := 0, slots := 0, locals := 50 } : Room) s m args below meth c s.heap [] 0 0 (MQ below (QcRd (some (.int r))) args s 0 0 nofree) (F0 m 5 ls [])) := by
  have C := C
  obtain ⟨hx, hb, hr, hml, hts, hown, hlocks, hK0⟩ := id C
  have hK := hK0.1
  intro n
  induction n with
  | zero =>
    intro v1 v2 v3 v4 ls hl hV
    rw [D_X3_peakIf_5] at hV
    cases hV
  | succ n ih =>
    intro v1 v2 v3 v4 ls hl hV
    rw [D_X3_peakIf_5] at hV
    refine lv_iload hx hb dX3_peakIf_5 (lv_at hl 4 rfl) ?_
    refine lv_bipush (v := 30) hx hb dX3_peakIf_7 (by decide) ?_
    refine lv_icmp_ge (tgt := 31) hx hb dX3_peakIf_9 (by decide) (fun c2 => ?_) (fun c2 => ?_)
    · have hV := jT1 hV c2
      refine lv_iload_n hx hb dX3_peakIf_31 rfl (lv_at hl 3 rfl) ?_
      exact pRet C rfl dX3_peakIf_32 rfl (Option.some.inj hV)
    · have hV := jF1 hV c2
      refine lv_iload_n hx hb dX3_peakIf_12 rfl (lv_at hl 3 rfl) ?_
      refine lv_aload_n hx hb dX3_peakIf_13 rfl (lv_at hl 0 rfl) ?_
      refine lv_iload hx hb dX3_peakIf_14 (lv_at hl 4 rfl) ?_
      refine lv_iload_n hx hb dX3_peakIf_16 rfl (lv_at hl 1 rfl) ?_
      refine lv_iload_n hx hb dX3_peakIf_17 rfl (lv_at hl 2 rfl) ?_
      obtain ⟨r1, hr1, hV⟩ := jBind hV
      refine jVpI C dX3_peakIf_18 (k_X3_loadIf l D G a N M v4 v1 v2 r1 hr1) jy_X3_loadIf jq_7_15 jq_7_16 jq_7_17 ⟨rfl, rfl, Nat.le_of_ble_eq_true rfl, Nat.le_of_ble_eq_true rfl⟩ ⟨Nat.le_of_ble_eq_true rfl, Nat.le_of_ble_eq_true rfl⟩ hP  (ci := 5) (iw := 0) rfl rfl rfl hl (rest := [.int v3]) rfl (Nat.le_of_ble_eq_true rfl) ?_
      refine va_mmax hx hb (by rw [hml]; exact hl.1.symm) hown (hts _ jq_7_14) (hts _ jq_1_6) (hts _ jq_1_7) (hts _ jq_1_8) (Nat.le_of_ble_eq_true rfl) (Nat.le_of_ble_eq_true rfl) (Nat.zero_le _) (Nat.zero_le _) (rest := []) dX3_peakIf_21 ?_
      refine lv_istore_n (lv' := [(3, .int (if v3 < r1 then r1 else v3)), (0, .ref (a 36)), (1, .int v1), (2, .int v2), (4, .int v4)]) hx hb dX3_peakIf_24 rfl hl (by decide) rfl (fun ls hl => ?_)
      refine lv_iinc (v := (v4 + 1)) (lv' := [(4, .int (v4 + 1)), (3, .int (if v3 < r1 then r1 else v3)), (0, .ref (a 36)), (1, .int v1), (2, .int v2)]) hx hb dX3_peakIf_25 hl (k := 4) rfl rfl (by decide) rfl (fun ls hl => ?_)
      refine lv_goto (tgt := 5) hx hb dX3_peakIf_28 (by decide) ?_
      exact ih  v1 v2 (if v3 < r1 then r1 else v3) (v4 + 1) _ (lv_sub hl [2, 3, 4, 1, 0] rfl) hV
def F_X3_peakIf (N : Nat)  (M : Nat → Nat → Int32) (v1 v2 : Int32) : Option Int32 := (D_X3_peakIf_5 N  M  N  v1 v2 (0 : Int32) (0 : Int32))
set_option maxHeartbeats 4000000 in
set_option maxRecDepth 100000 in
theorem k_X3_peakIf (l : Launch) (D : va_G) (G : Nat → ClassId) (a : Nat → Nat) (N : Nat) (M : Nat → Nat → Int32) (v1 v2 : Int32) (r : Int32) (hV : F_X3_peakIf N  M v1 v2 = some r) : pM l yX3_peakIf (jws yX3_peakIf cX3_peakIf 5 (some .int)) ({ frames := 2, cells := 0, slots := 0, locals := 50 } : Room) [.ref (a 36), .int v1, .int v2] D G (wProd a G M) (some (.int r)) := by
  refine pM_of (by decide +kernel) (Nat.le_of_ble_eq_true rfl) (fun p e s m args below meth c ls C hP hl => ?_)
  have C : Cx p s m args meth c cX3_peakIf 5 RX3 (some .int) D G := C
  obtain ⟨hx, hb, hr, hml, hts, hown, hlocks, hK0⟩ := id C
  have hK := hK0.1
  have hl : lv_has ls 5 [(0, .ref (a 36)), (1, .int v1), (2, .int v2)] := hl
  rw [F_X3_peakIf] at hV
  refine lv_iconst (v := 0) hx hb dX3_peakIf_0 (by decide) ?_
  refine lv_istore_n (lv' := [(3, .int (0 : Int32)), (0, .ref (a 36)), (1, .int v1), (2, .int v2)]) hx hb dX3_peakIf_1 rfl hl (by decide) rfl (fun ls hl => ?_)
  refine lv_iconst (v := 0) hx hb dX3_peakIf_2 (by decide) ?_
  refine lv_istore (lv' := [(4, .int (0 : Int32)), (3, .int (0 : Int32)), (0, .ref (a 36)), (1, .int v1), (2, .int v2)]) hx hb dX3_peakIf_3 hl (by decide) rfl (fun ls hl => ?_)
  exact B_X3_peakIf_5 C  N a M r hP   N  v1 v2 (0 : Int32) (0 : Int32) _ (lv_sub hl [2, 3, 4, 1, 0] rfl) hV
theorem jy_X3_crewIf : jY yX3_crewIf cX3_crewIf 7 (some .int) 3 := ⟨by decide +kernel, jq_14_6, jq_2_20⟩
def D_X3_crewIf_34 (N : Nat)  (M : Nat → Nat → Int32) (k6 : Int32 → Int32 → Int32 → Int32 → Int32 → Option Int32) (v1 : Int32) (v2 : Int32) (v3 : Int32) (v4 : Int32) (v5 : Int32) (s0 : Int32) : Option Int32 := (if (jBit s0 v1) = 0 then (k6  v1 v2 v3 v4 (v5 + 1)) else (k6  v1 v2 v3 (v4 + (rg 8 (M 3) v5)) (v5 + 1)))
set_option maxHeartbeats 4000000 in
set_option maxRecDepth 100000 in
theorem B_X3_crewIf_34 {p : Program} {l : Launch} {e : Env} {s : State} {m : MethodId} {args : Array Value} {below : List Frame} {meth : Method} {c : Code} {D : va_G} {G : Nat → ClassId} (C : Cx p s m args meth c cX3_crewIf 7 RX3 (some .int) D G) (N : Nat) (a : Nat → Nat) (M : Nat → Nat → Int32) (r : Int32) (hP : va_P D vwCl (wProd a G M) s.heap) (k6 : Int32 → Int32 → Int32 → Int32 → Int32 → Option Int32) (hk6 : (∀ (v1 : Int32) (v2 : Int32) (v3 : Int32) (v4 : Int32) (v5 : Int32) (ls : Array Slot), lv_has ls 7 [(0, .ref (a 36)), (1, .int v1), (2, .int v2), (3, .int v3), (4, .int v4), (5, .int v5)] → k6 v1 v2 v3 v4 v5 = some r → W p l e ({ frames := 1, cells := 0, slots := 0, locals := 21 } : Room) s m args below meth c s.heap [] 0 0 (MQ below (QcRd (some (.int r))) args s 0 0 nofree) (F0 m 6 ls []))) : (∀ (v1 : Int32) (v2 : Int32) (v3 : Int32) (v4 : Int32) (v5 : Int32) (s0 : Int32) (ls : Array Slot), lv_has ls 7 [(0, .ref (a 36)), (1, .int v1), (2, .int v2), (3, .int v3), (4, .int v4), (5, .int v5)] → D_X3_crewIf_34 N  M k6 v1 v2 v3 v4 v5 s0 = some r → W p l e ({ frames := 1, cells := 0, slots := 0, locals := 21 } : Room) s m args below meth c s.heap [] 0 0 (MQ below (QcRd (some (.int r))) args s 0 0 nofree) (F0 m 34 ls [.int s0])) := by
  have C := C
  obtain ⟨hx, hb, hr, hml, hts, hown, hlocks, hK0⟩ := id C
  have hK := hK0.1
  intro v1 v2 v3 v4 v5 s0 ls hl hV
  rw [D_X3_crewIf_34] at hV
  refine lv_istore (lv' := [(6, .int s0), (0, .ref (a 36)), (1, .int v1), (2, .int v2), (3, .int v3), (4, .int v4), (5, .int v5)]) hx hb dX3_crewIf_34 hl (by decide) rfl (fun ls hl => ?_)
  refine lv_iload hx hb dX3_crewIf_36 (lv_at hl 0 rfl) ?_
  refine lv_iload_n hx hb dX3_crewIf_38 rfl (lv_at hl 2 rfl) ?_
  refine jSpNI C dX3_crewIf_39 (host := "TheatreSeasons") (kt_X8_isInSet l D G    s0 v1) jy_X8_isInSet jn_51 jq_14_7 ⟨rfl, rfl, Nat.le_of_ble_eq_true rfl, Nat.le_of_ble_eq_true rfl⟩ ⟨Nat.le_of_ble_eq_true rfl, Nat.le_of_ble_eq_true rfl⟩ jE  hl (rest := []) rfl (Nat.le_of_ble_eq_true rfl) ?_
  refine lv_if_eq (tgt := 59) hx hb dX3_crewIf_42 (by decide) (fun c3 => ?_) (fun c3 => ?_)
  · have hV := jT1 hV c3
    refine lv_iinc (v := (v5 + 1)) (lv' := [(5, .int (v5 + 1)), (6, .int s0), (0, .ref (a 36)), (1, .int v1), (2, .int v2), (3, .int v3), (4, .int v4)]) hx hb dX3_crewIf_59 hl (k := 6) rfl rfl (by decide) rfl (fun ls hl => ?_)
    refine lv_goto (tgt := 6) hx hb dX3_crewIf_62 (by decide) ?_
    exact hk6  v1 v2 v3 v4 (v5 + 1) _ (lv_sub hl [2, 3, 4, 5, 6, 0] rfl) hV
  · have hV := jF1 hV c3
    refine lv_iload hx hb dX3_crewIf_45 (lv_at hl 5 rfl) ?_
    refine lv_aload_n hx hb dX3_crewIf_47 rfl (lv_at hl 1 rfl) ?_
    refine va_get (D := D) (ci := 5) (v := .ref (a 6)) (C := RX3) (T := TX3) (N := 6) hx hb hts ju_X3 hown hK hP 0 rfl rfl 2 (by decide) (hts _ jq_3_20) (fun _ h9 => h9) rfl dX3_crewIf_48 ?_
    refine lv_iload hx hb dX3_crewIf_51 (lv_at hl 6 rfl) ?_
    refine jVpI C dX3_crewIf_53 (kt_X5_get l D G (a 6) (a 7) 8 (Nat.le_of_ble_eq_true rfl) (M 3) v5) jy_X5_get jq_7_20 jq_6_13 jq_6_14 ⟨rfl, rfl, Nat.le_of_ble_eq_true rfl, Nat.le_of_ble_eq_true rfl⟩ ⟨Nat.le_of_ble_eq_true rfl, Nat.le_of_ble_eq_true rfl⟩ (sX3_3 hP)  (ci := 7) (iw := 0) rfl rfl rfl hl (rest := [.int v4]) rfl (Nat.le_of_ble_eq_true rfl) ?_
    refine lv_iadd hx hb dX3_crewIf_56 ?_
    refine lv_istore (lv' := [(4, .int (v4 + (rg 8 (M 3) v5))), (6, .int s0), (0, .ref (a 36)), (1, .int v1), (2, .int v2), (3, .int v3), (5, .int v5)]) hx hb dX3_crewIf_57 hl (by decide) rfl (fun ls hl => ?_)
    refine lv_iinc (v := (v5 + 1)) (lv' := [(5, .int (v5 + 1)), (4, .int (v4 + (rg 8 (M 3) v5))), (6, .int s0), (0, .ref (a 36)), (1, .int v1), (2, .int v2), (3, .int v3)]) hx hb dX3_crewIf_59 hl (k := 6) rfl rfl (by decide) rfl (fun ls hl => ?_)
    refine lv_goto (tgt := 6) hx hb dX3_crewIf_62 (by decide) ?_
    exact hk6  v1 v2 v3 (v4 + (rg 8 (M 3) v5)) (v5 + 1) _ (lv_sub hl [3, 4, 5, 6, 1, 0] rfl) hV
def D_X3_crewIf_6 (N : Nat)  (M : Nat → Nat → Int32) : Nat → Int32 → Int32 → Int32 → Int32 → Int32 → Option Int32
  | 0, _, _, _, _, _ => none
  | n + 1, v1, v2, v3, v4, v5 => (if (M 0 2) ≤ v5 then (some v4) else (if v5 = v2 then (D_X3_crewIf_34 N  M (D_X3_crewIf_6 N  M  n)  v1 v2 v3 v4 v5 v3) else (D_X3_crewIf_34 N  M (D_X3_crewIf_6 N  M  n)  v1 v2 v3 v4 v5 (rg 8 (M 6) v5))))
set_option maxHeartbeats 4000000 in
set_option maxRecDepth 100000 in
theorem B_X3_crewIf_6 {p : Program} {l : Launch} {e : Env} {s : State} {m : MethodId} {args : Array Value} {below : List Frame} {meth : Method} {c : Code} {D : va_G} {G : Nat → ClassId} (C : Cx p s m args meth c cX3_crewIf 7 RX3 (some .int) D G) (N : Nat) (a : Nat → Nat) (M : Nat → Nat → Int32) (r : Int32) (hP : va_P D vwCl (wProd a G M) s.heap) : (∀ (n : Nat) (v1 : Int32) (v2 : Int32) (v3 : Int32) (v4 : Int32) (v5 : Int32) (ls : Array Slot), lv_has ls 7 [(0, .ref (a 36)), (1, .int v1), (2, .int v2), (3, .int v3), (4, .int v4), (5, .int v5)] → D_X3_crewIf_6 N  M  n v1 v2 v3 v4 v5 = some r → W p l e ({ frames := 1, cells := 0, slots := 0, locals := 21 } : Room) s m args below meth c s.heap [] 0 0 (MQ below (QcRd (some (.int r))) args s 0 0 nofree) (F0 m 6 ls [])) := by
  have C := C
  obtain ⟨hx, hb, hr, hml, hts, hown, hlocks, hK0⟩ := id C
  have hK := hK0.1
  intro n
  induction n with
  | zero =>
    intro v1 v2 v3 v4 v5 ls hl hV
    rw [D_X3_crewIf_6] at hV
    cases hV
  | succ n ih =>
    intro v1 v2 v3 v4 v5 ls hl hV
    rw [D_X3_crewIf_6] at hV
    refine lv_iload hx hb dX3_crewIf_6 (lv_at hl 5 rfl) ?_
    refine lv_aload_n hx hb dX3_crewIf_8 rfl (lv_at hl 0 rfl) ?_
    refine va_get (D := D) (ci := 5) (v := .int (M 0 2)) (C := RX3) (T := TX3) (N := 6) hx hb hts ju_X3 hown hK hP 0 rfl rfl 0 (by decide) (hts _ jq_7_19) (fun _ h9 => h9) rfl dX3_crewIf_9 ?_
    refine lv_icmp_ge (tgt := 65) hx hb dX3_crewIf_12 (by decide) (fun c6 => ?_) (fun c6 => ?_)
    · have hV := jT1 hV c6
      refine lv_iload hx hb dX3_crewIf_65 (lv_at hl 4 rfl) ?_
      exact pRet C rfl dX3_crewIf_67 rfl (Option.some.inj hV)
    · have hV := jF1 hV c6
      refine lv_iload hx hb dX3_crewIf_15 (lv_at hl 5 rfl) ?_
      refine lv_iload_n hx hb dX3_crewIf_17 rfl (lv_at hl 2 rfl) ?_
      refine lv_icmp_ne (tgt := 25) hx hb dX3_crewIf_18 (by decide) (fun c5 => ?_) (fun c5 => ?_)
      · have hV := jF1 hV c5
        refine lv_aload_n hx hb dX3_crewIf_25 rfl (lv_at hl 0 rfl) ?_
        refine va_get (D := D) (ci := 5) (v := .ref (a 12)) (C := RX3) (T := TX3) (N := 6) hx hb hts ju_X3 hown hK hP 0 rfl rfl 5 (by decide) (hts _ jq_3_23) (fun _ h9 => h9) rfl dX3_crewIf_26 ?_
        refine lv_iload hx hb dX3_crewIf_29 (lv_at hl 5 rfl) ?_
        refine jVpI C dX3_crewIf_31 (kt_X5_get l D G (a 12) (a 13) 8 (Nat.le_of_ble_eq_true rfl) (M 6) v5) jy_X5_get jq_7_20 jq_6_13 jq_6_14 ⟨rfl, rfl, Nat.le_of_ble_eq_true rfl, Nat.le_of_ble_eq_true rfl⟩ ⟨Nat.le_of_ble_eq_true rfl, Nat.le_of_ble_eq_true rfl⟩ (sX3_6 hP)  (ci := 7) (iw := 0) rfl rfl rfl hl (rest := []) rfl (Nat.le_of_ble_eq_true rfl) ?_
        exact B_X3_crewIf_34 C  N a M r hP (D_X3_crewIf_6 N  M  n) ih  v1 v2 v3 v4 v5 (rg 8 (M 6) v5) _ (lv_sub hl [0, 1, 2, 3, 4, 5] rfl) hV
      · have hV := jT1 hV c5
        refine lv_iload_n hx hb dX3_crewIf_21 rfl (lv_at hl 3 rfl) ?_
        refine lv_goto (tgt := 34) hx hb dX3_crewIf_22 (by decide) ?_
        exact B_X3_crewIf_34 C  N a M r hP (D_X3_crewIf_6 N  M  n) ih  v1 v2 v3 v4 v5 v3 _ (lv_sub hl [0, 1, 2, 3, 4, 5] rfl) hV
def F_X3_crewIf (N : Nat)  (M : Nat → Nat → Int32) (v1 v2 v3 : Int32) : Option Int32 := (D_X3_crewIf_6 N  M  N  v1 v2 v3 (0 : Int32) (0 : Int32))
set_option maxHeartbeats 4000000 in
set_option maxRecDepth 100000 in
theorem k_X3_crewIf (l : Launch) (D : va_G) (G : Nat → ClassId) (a : Nat → Nat) (N : Nat) (M : Nat → Nat → Int32) (v1 v2 v3 : Int32) (r : Int32) (hV : F_X3_crewIf N  M v1 v2 v3 = some r) : pM l yX3_crewIf (jws yX3_crewIf cX3_crewIf 7 (some .int)) ({ frames := 1, cells := 0, slots := 0, locals := 21 } : Room) [.ref (a 36), .int v1, .int v2, .int v3] D G (wProd a G M) (some (.int r)) := by
  refine pM_of (by decide +kernel) (Nat.le_of_ble_eq_true rfl) (fun p e s m args below meth c ls C hP hl => ?_)
  have C : Cx p s m args meth c cX3_crewIf 7 RX3 (some .int) D G := C
  obtain ⟨hx, hb, hr, hml, hts, hown, hlocks, hK0⟩ := id C
  have hK := hK0.1
  have hl : lv_has ls 7 [(0, .ref (a 36)), (1, .int v1), (2, .int v2), (3, .int v3)] := hl
  rw [F_X3_crewIf] at hV
  refine lv_iconst (v := 0) hx hb dX3_crewIf_0 (by decide) ?_
  refine lv_istore (lv' := [(4, .int (0 : Int32)), (0, .ref (a 36)), (1, .int v1), (2, .int v2), (3, .int v3)]) hx hb dX3_crewIf_1 hl (by decide) rfl (fun ls hl => ?_)
  refine lv_iconst (v := 0) hx hb dX3_crewIf_3 (by decide) ?_
  refine lv_istore (lv' := [(5, .int (0 : Int32)), (4, .int (0 : Int32)), (0, .ref (a 36)), (1, .int v1), (2, .int v2), (3, .int v3)]) hx hb dX3_crewIf_4 hl (by decide) rfl (fun ls hl => ?_)
  exact B_X3_crewIf_6 C  N a M r hP   N  v1 v2 v3 (0 : Int32) (0 : Int32) _ (lv_sub hl [2, 3, 4, 5, 1, 0] rfl) hV
theorem jy_X3_staffRefusalIf : jY yX3_staffRefusalIf cX3_staffRefusalIf 6 (some .int) 3 := ⟨by decide +kernel, jq_14_2, jq_2_20⟩
def D_X3_staffRefusalIf_3 (N : Nat)  (M : Nat → Nat → Int32) : Nat → Int32 → Int32 → Int32 → Int32 → Option Int32
  | 0, _, _, _, _ => none
  | n + 1, v1, v2, v3, v4 => (if (30 : Int32) ≤ v4 then (some (0 : Int32)) else ((F_X3_crewIf N M v4 v2 v3).bind (fun r1 => (if (r1 - v1) ≤ 0 then (D_X3_staffRefusalIf_3 N  M  n  v1 v2 v3 (v4 + 1)) else (some (jRef (2 : Int32) (r1 - v1)))))))
set_option maxHeartbeats 4000000 in
set_option maxRecDepth 100000 in
theorem B_X3_staffRefusalIf_3 {p : Program} {l : Launch} {e : Env} {s : State} {m : MethodId} {args : Array Value} {below : List Frame} {meth : Method} {c : Code} {D : va_G} {G : Nat → ClassId} (C : Cx p s m args meth c cX3_staffRefusalIf 6 RX3 (some .int) D G) (N : Nat) (a : Nat → Nat) (M : Nat → Nat → Int32) (r : Int32) (hP : va_P D vwCl (wProd a G M) s.heap) : (∀ (n : Nat) (v1 : Int32) (v2 : Int32) (v3 : Int32) (v4 : Int32) (ls : Array Slot), lv_has ls 6 [(0, .ref (a 36)), (1, .int v1), (2, .int v2), (3, .int v3), (4, .int v4)] → D_X3_staffRefusalIf_3 N  M  n v1 v2 v3 v4 = some r → W p l e ({ frames := 2, cells := 0, slots := 0, locals := 47 } : Room) s m args below meth c s.heap [] 0 0 (MQ below (QcRd (some (.int r))) args s 0 0 nofree) (F0 m 3 ls [])) := by
  have C := C
  obtain ⟨hx, hb, hr, hml, hts, hown, hlocks, hK0⟩ := id C
  have hK := hK0.1
  intro n
  induction n with
  | zero =>
    intro v1 v2 v3 v4 ls hl hV
    rw [D_X3_staffRefusalIf_3] at hV
    cases hV
  | succ n ih =>
    intro v1 v2 v3 v4 ls hl hV
    rw [D_X3_staffRefusalIf_3] at hV
    refine lv_iload hx hb dX3_staffRefusalIf_3 (lv_at hl 4 rfl) ?_
    refine lv_bipush (v := 30) hx hb dX3_staffRefusalIf_5 (by decide) ?_
    refine lv_icmp_ge (tgt := 40) hx hb dX3_staffRefusalIf_7 (by decide) (fun c4 => ?_) (fun c4 => ?_)
    · have hV := jT1 hV c4
      refine lv_iconst (v := 0) hx hb dX3_staffRefusalIf_40 (by decide) ?_
      exact pRet C rfl dX3_staffRefusalIf_41 rfl (Option.some.inj hV)
    · have hV := jF1 hV c4
      refine lv_aload_n hx hb dX3_staffRefusalIf_10 rfl (lv_at hl 0 rfl) ?_
      refine lv_iload hx hb dX3_staffRefusalIf_11 (lv_at hl 4 rfl) ?_
      refine lv_iload_n hx hb dX3_staffRefusalIf_13 rfl (lv_at hl 2 rfl) ?_
      refine lv_iload_n hx hb dX3_staffRefusalIf_14 rfl (lv_at hl 3 rfl) ?_
      obtain ⟨r1, hr1, hV⟩ := jBind hV
      refine jVpI C dX3_staffRefusalIf_15 (k_X3_crewIf l D G a N M v4 v2 v3 r1 hr1) jy_X3_crewIf jq_14_3 jq_14_4 jq_14_5 ⟨rfl, rfl, Nat.le_of_ble_eq_true rfl, Nat.le_of_ble_eq_true rfl⟩ ⟨Nat.le_of_ble_eq_true rfl, Nat.le_of_ble_eq_true rfl⟩ hP  (ci := 5) (iw := 0) rfl rfl rfl hl (rest := []) rfl (Nat.le_of_ble_eq_true rfl) ?_
      refine lv_iload_n hx hb dX3_staffRefusalIf_18 rfl (lv_at hl 1 rfl) ?_
      refine lv_isub hx hb dX3_staffRefusalIf_19 ?_
      refine lv_istore (lv' := [(5, .int (r1 - v1)), (0, .ref (a 36)), (1, .int v1), (2, .int v2), (3, .int v3), (4, .int v4)]) hx hb dX3_staffRefusalIf_20 hl (by decide) rfl (fun ls hl => ?_)
      refine lv_iload hx hb dX3_staffRefusalIf_22 (lv_at hl 0 rfl) ?_
      refine lv_if_le (tgt := 34) hx hb dX3_staffRefusalIf_24 (by decide) (fun c3 => ?_) (fun c3 => ?_)
      · have hV := jT1 hV c3
        refine lv_iinc (v := (v4 + 1)) (lv' := [(4, .int (v4 + 1)), (5, .int (r1 - v1)), (0, .ref (a 36)), (1, .int v1), (2, .int v2), (3, .int v3)]) hx hb dX3_staffRefusalIf_34 hl (k := 5) rfl rfl (by decide) rfl (fun ls hl => ?_)
        refine lv_goto (tgt := 3) hx hb dX3_staffRefusalIf_37 (by decide) ?_
        exact ih  v1 v2 v3 (v4 + 1) _ (lv_sub hl [2, 3, 4, 5, 0] rfl) hV
      · have hV := jF1 hV c3
        refine lv_iconst (v := 2) hx hb dX3_staffRefusalIf_27 (by decide) ?_
        refine lv_iload hx hb dX3_staffRefusalIf_28 (lv_at hl 0 rfl) ?_
        refine jSpNI C dX3_staffRefusalIf_30 (host := "TheatreSeasons") (kt_X8_refusal l D G    (2 : Int32) (r1 - v1)) jy_X8_refusal jn_52 jq_13_13 ⟨rfl, rfl, Nat.le_of_ble_eq_true rfl, Nat.le_of_ble_eq_true rfl⟩ ⟨Nat.le_of_ble_eq_true rfl, Nat.le_of_ble_eq_true rfl⟩ jE  hl (rest := []) rfl (Nat.le_of_ble_eq_true rfl) ?_
        exact pRet C rfl dX3_staffRefusalIf_33 rfl (Option.some.inj hV)
def F_X3_staffRefusalIf (N : Nat)  (M : Nat → Nat → Int32) (v1 v2 v3 : Int32) : Option Int32 := (D_X3_staffRefusalIf_3 N  M  N  v1 v2 v3 (0 : Int32))
set_option maxHeartbeats 4000000 in
set_option maxRecDepth 100000 in
theorem k_X3_staffRefusalIf (l : Launch) (D : va_G) (G : Nat → ClassId) (a : Nat → Nat) (N : Nat) (M : Nat → Nat → Int32) (v1 v2 v3 : Int32) (r : Int32) (hV : F_X3_staffRefusalIf N  M v1 v2 v3 = some r) : pM l yX3_staffRefusalIf (jws yX3_staffRefusalIf cX3_staffRefusalIf 6 (some .int)) ({ frames := 2, cells := 0, slots := 0, locals := 47 } : Room) [.ref (a 36), .int v1, .int v2, .int v3] D G (wProd a G M) (some (.int r)) := by
  refine pM_of (by decide +kernel) (Nat.le_of_ble_eq_true rfl) (fun p e s m args below meth c ls C hP hl => ?_)
  have C : Cx p s m args meth c cX3_staffRefusalIf 6 RX3 (some .int) D G := C
  obtain ⟨hx, hb, hr, hml, hts, hown, hlocks, hK0⟩ := id C
  have hK := hK0.1
  have hl : lv_has ls 6 [(0, .ref (a 36)), (1, .int v1), (2, .int v2), (3, .int v3)] := hl
  rw [F_X3_staffRefusalIf] at hV
  refine lv_iconst (v := 0) hx hb dX3_staffRefusalIf_0 (by decide) ?_
  refine lv_istore (lv' := [(4, .int (0 : Int32)), (0, .ref (a 36)), (1, .int v1), (2, .int v2), (3, .int v3)]) hx hb dX3_staffRefusalIf_1 hl (by decide) rfl (fun ls hl => ?_)
  exact B_X3_staffRefusalIf_3 C  N a M r hP   N  v1 v2 v3 (0 : Int32) _ (lv_sub hl [1, 2, 3, 4, 0] rfl) hV
theorem jy_X3_roomRefusalIf : jY yX3_roomRefusalIf cX3_roomRefusalIf 5 (some .int) 3 := ⟨by decide +kernel, jq_14_12, jq_2_20⟩
def D_X3_roomRefusalIf_3 (N : Nat)  (M : Nat → Nat → Int32) : Nat → Int32 → Int32 → Int32 → Int32 → Option Int32
  | 0, _, _, _, _ => none
  | n + 1, v1, v2, v3, v4 => (if (30 : Int32) ≤ v4 then (some (0 : Int32)) else ((F_X3_loadIf N M v4 v2 v3).bind (fun r1 => (if r1 ≤ v1 then (D_X3_roomRefusalIf_3 N  M  n  v1 v2 v3 (v4 + 1)) else (some (jRef (3 : Int32) v4))))))
set_option maxHeartbeats 4000000 in
set_option maxRecDepth 100000 in
theorem B_X3_roomRefusalIf_3 {p : Program} {l : Launch} {e : Env} {s : State} {m : MethodId} {args : Array Value} {below : List Frame} {meth : Method} {c : Code} {D : va_G} {G : Nat → ClassId} (C : Cx p s m args meth c cX3_roomRefusalIf 5 RX3 (some .int) D G) (N : Nat) (a : Nat → Nat) (M : Nat → Nat → Int32) (r : Int32) (hP : va_P D vwCl (wProd a G M) s.heap) : (∀ (n : Nat) (v1 : Int32) (v2 : Int32) (v3 : Int32) (v4 : Int32) (ls : Array Slot), lv_has ls 5 [(0, .ref (a 36)), (1, .int v1), (2, .int v2), (3, .int v3), (4, .int v4)] → D_X3_roomRefusalIf_3 N  M  n v1 v2 v3 v4 = some r → W p l e ({ frames := 2, cells := 0, slots := 0, locals := 50 } : Room) s m args below meth c s.heap [] 0 0 (MQ below (QcRd (some (.int r))) args s 0 0 nofree) (F0 m 3 ls [])) := by
  have C := C
  obtain ⟨hx, hb, hr, hml, hts, hown, hlocks, hK0⟩ := id C
  have hK := hK0.1
  intro n
  induction n with
  | zero =>
    intro v1 v2 v3 v4 ls hl hV
    rw [D_X3_roomRefusalIf_3] at hV
    cases hV
  | succ n ih =>
    intro v1 v2 v3 v4 ls hl hV
    rw [D_X3_roomRefusalIf_3] at hV
    refine lv_iload hx hb dX3_roomRefusalIf_3 (lv_at hl 4 rfl) ?_
    refine lv_bipush (v := 30) hx hb dX3_roomRefusalIf_5 (by decide) ?_
    refine lv_icmp_ge (tgt := 35) hx hb dX3_roomRefusalIf_7 (by decide) (fun c4 => ?_) (fun c4 => ?_)
    · have hV := jT1 hV c4
      refine lv_iconst (v := 0) hx hb dX3_roomRefusalIf_35 (by decide) ?_
      exact pRet C rfl dX3_roomRefusalIf_36 rfl (Option.some.inj hV)
    · have hV := jF1 hV c4
      refine lv_aload_n hx hb dX3_roomRefusalIf_10 rfl (lv_at hl 0 rfl) ?_
      refine lv_iload hx hb dX3_roomRefusalIf_11 (lv_at hl 4 rfl) ?_
      refine lv_iload_n hx hb dX3_roomRefusalIf_13 rfl (lv_at hl 2 rfl) ?_
      refine lv_iload_n hx hb dX3_roomRefusalIf_14 rfl (lv_at hl 3 rfl) ?_
      obtain ⟨r1, hr1, hV⟩ := jBind hV
      refine jVpI C dX3_roomRefusalIf_15 (k_X3_loadIf l D G a N M v4 v2 v3 r1 hr1) jy_X3_loadIf jq_7_15 jq_7_16 jq_7_17 ⟨rfl, rfl, Nat.le_of_ble_eq_true rfl, Nat.le_of_ble_eq_true rfl⟩ ⟨Nat.le_of_ble_eq_true rfl, Nat.le_of_ble_eq_true rfl⟩ hP  (ci := 5) (iw := 0) rfl rfl rfl hl (rest := []) rfl (Nat.le_of_ble_eq_true rfl) ?_
      refine lv_iload_n hx hb dX3_roomRefusalIf_18 rfl (lv_at hl 1 rfl) ?_
      refine lv_icmp_le (tgt := 29) hx hb dX3_roomRefusalIf_19 (by decide) (fun c3 => ?_) (fun c3 => ?_)
      · have hV := jT1 hV c3
        refine lv_iinc (v := (v4 + 1)) (lv' := [(4, .int (v4 + 1)), (0, .ref (a 36)), (1, .int v1), (2, .int v2), (3, .int v3)]) hx hb dX3_roomRefusalIf_29 hl (k := 4) rfl rfl (by decide) rfl (fun ls hl => ?_)
        refine lv_goto (tgt := 3) hx hb dX3_roomRefusalIf_32 (by decide) ?_
        exact ih  v1 v2 v3 (v4 + 1) _ (lv_sub hl [1, 2, 3, 4, 0] rfl) hV
      · have hV := jF1 hV c3
        refine lv_iconst (v := 3) hx hb dX3_roomRefusalIf_22 (by decide) ?_
        refine lv_iload hx hb dX3_roomRefusalIf_23 (lv_at hl 4 rfl) ?_
        refine jSpNI C dX3_roomRefusalIf_25 (host := "TheatreSeasons") (kt_X8_refusal l D G    (3 : Int32) v4) jy_X8_refusal jn_52 jq_13_13 ⟨rfl, rfl, Nat.le_of_ble_eq_true rfl, Nat.le_of_ble_eq_true rfl⟩ ⟨Nat.le_of_ble_eq_true rfl, Nat.le_of_ble_eq_true rfl⟩ jE  hl (rest := []) rfl (Nat.le_of_ble_eq_true rfl) ?_
        exact pRet C rfl dX3_roomRefusalIf_28 rfl (Option.some.inj hV)
def F_X3_roomRefusalIf (N : Nat)  (M : Nat → Nat → Int32) (v1 v2 v3 : Int32) : Option Int32 := (D_X3_roomRefusalIf_3 N  M  N  v1 v2 v3 (0 : Int32))
set_option maxHeartbeats 4000000 in
set_option maxRecDepth 100000 in
theorem k_X3_roomRefusalIf (l : Launch) (D : va_G) (G : Nat → ClassId) (a : Nat → Nat) (N : Nat) (M : Nat → Nat → Int32) (v1 v2 v3 : Int32) (r : Int32) (hV : F_X3_roomRefusalIf N  M v1 v2 v3 = some r) : pM l yX3_roomRefusalIf (jws yX3_roomRefusalIf cX3_roomRefusalIf 5 (some .int)) ({ frames := 2, cells := 0, slots := 0, locals := 50 } : Room) [.ref (a 36), .int v1, .int v2, .int v3] D G (wProd a G M) (some (.int r)) := by
  refine pM_of (by decide +kernel) (Nat.le_of_ble_eq_true rfl) (fun p e s m args below meth c ls C hP hl => ?_)
  have C : Cx p s m args meth c cX3_roomRefusalIf 5 RX3 (some .int) D G := C
  obtain ⟨hx, hb, hr, hml, hts, hown, hlocks, hK0⟩ := id C
  have hK := hK0.1
  have hl : lv_has ls 5 [(0, .ref (a 36)), (1, .int v1), (2, .int v2), (3, .int v3)] := hl
  rw [F_X3_roomRefusalIf] at hV
  refine lv_iconst (v := 0) hx hb dX3_roomRefusalIf_0 (by decide) ?_
  refine lv_istore (lv' := [(4, .int (0 : Int32)), (0, .ref (a 36)), (1, .int v1), (2, .int v2), (3, .int v3)]) hx hb dX3_roomRefusalIf_1 hl (by decide) rfl (fun ls hl => ?_)
  exact B_X3_roomRefusalIf_3 C  N a M r hP   N  v1 v2 v3 (0 : Int32) _ (lv_sub hl [1, 2, 3, 4, 0] rfl) hV
