theorem jy_X6_makeProduction : jY yX6_makeProduction cX6_makeProduction 6 (some .int) 4 := ⟨by decide +kernel, jq_10_19, jq_1_18⟩
def D_X6_makeProduction_46 (N : Nat)  (M : Nat → Nat → Int32) (v1 : Int32) (v2 : Int32) (v3 : Int32) (v4 : Int32) (s0 : Int32) : Option (Int32 × (Nat → Nat → Int32)) := (if s0 = 0 then (some ((-2 : Int32), M)) else (if (8 : Int32) ≤ (M 0 2) then (some ((-3 : Int32), M)) else ((F_X3_add N M v1 v2 v3 v4).bind (fun r1 => (jlet (mgX3 M r1.2) (fun M2 => (some (r1.1, M2))))))))
set_option maxHeartbeats 4000000 in
set_option maxRecDepth 100000 in
theorem B_X6_makeProduction_46 {p : Program} {l : Launch} {e : Env} {s : State} {m : MethodId} {args : Array Value} {below : List Frame} {meth : Method} {c : Code} {D : va_G} {G : Nat → ClassId} {A : Nat → Prop} (C : Cx p s m args meth c cX6_makeProduction 6 RX6 (some .int) D G) (hA : ∀ q : Nat, s.heap.size ≤ q → A q) (N : Nat) (a : Nat → Nat) (r : (Int32 × (Nat → Nat → Int32))) : (∀ (M : Nat → Nat → Int32) (v1 : Int32) (v2 : Int32) (v3 : Int32) (v4 : Int32) (s0 : Int32) (ls : Array Slot) (H : Heap) (locs : List Loc), va_P D vwCl (wSeas a G M) H → va_D A (wSeas a G M) → va_S A s.heap H locs → lv_has ls 6 [(0, .ref (a 0)), (1, .int v1), (2, .int v2), (3, .int v3), (4, .int v4)] → D_X6_makeProduction_46 N   M v1 v2 v3 v4 s0 = some r → W p l e ({ frames := 2, cells := 0, slots := 0, locals := 47 } : Room) s m args below meth c H locs 0 0 (MQ below (mQ D (wSeas a G r.2) (some (.int r.1)) A) args s 0 0 A) (F0 m 46 ls [.int s0])) := by
  have C := C
  obtain ⟨hx, hb, hr, hml, hts, hown, hlocks, hK0⟩ := id C
  have hK := hK0.1
  intro M v1 v2 v3 v4 s0 ls H locs hP hD hS hl hV
  rw [D_X6_makeProduction_46] at hV
  refine lv_istore (lv' := [(5, .int s0), (0, .ref (a 0)), (1, .int v1), (2, .int v2), (3, .int v3), (4, .int v4)]) hx hb dX6_makeProduction_46 hl (by decide) rfl (fun ls hl => ?_)
  refine lv_iload hx hb dX6_makeProduction_48 (lv_at hl 0 rfl) ?_
  refine lv_if_ne (tgt := 56) hx hb dX6_makeProduction_50 (by decide) (fun c5 => ?_) (fun c5 => ?_)
  · have hV := jF1 hV c5
    refine lv_aload_n hx hb dX6_makeProduction_56 rfl (lv_at hl 1 rfl) ?_
    refine va_get (D := D) (ci := 8) (v := .ref (a 36)) (C := RX6) (T := TX6) (N := 7) hx hb hts ju_X6 hown hK hP 0 rfl rfl 3 (by decide) (hts _ jq_2_21) (fun _ h9 => h9) rfl dX6_makeProduction_57 ?_
    refine va_getN (D := D) (ci := 5) (v := .int (M 0 2)) (C := RX3) (T := TX3) (N := 6) (host := "TheatreSeasons") hx hb hts ju_X3 hown hK (sX6_X3 hP) 0 rfl rfl 0 (by decide) (va_Nw.use rfl (hK0.2 _ jn_0)) (fun _ h9 => h9) rfl dX6_makeProduction_60 ?_
    refine lv_bipush (v := 8) hx hb dX6_makeProduction_63 (by decide) ?_
    refine lv_icmp_ge (tgt := 83) hx hb dX6_makeProduction_65 (by decide) (fun c4 => ?_) (fun c4 => ?_)
    · have hV := jT1 hV c4
      refine lv_bipush (v := -3) hx hb dX6_makeProduction_83 (by decide) ?_
      cases hV
      exact mRet C rfl dX6_makeProduction_85 rfl rfl hP hS
    · have hV := jF1 hV c4
      refine lv_aload_n hx hb dX6_makeProduction_68 rfl (lv_at hl 1 rfl) ?_
      refine va_get (D := D) (ci := 8) (v := .ref (a 36)) (C := RX6) (T := TX6) (N := 7) hx hb hts ju_X6 hown hK hP 0 rfl rfl 3 (by decide) (hts _ jq_2_21) (fun _ h9 => h9) rfl dX6_makeProduction_69 ?_
      refine lv_iload_n hx hb dX6_makeProduction_72 rfl (lv_at hl 2 rfl) ?_
      refine lv_iload_n hx hb dX6_makeProduction_73 rfl (lv_at hl 3 rfl) ?_
      refine lv_iload_n hx hb dX6_makeProduction_74 rfl (lv_at hl 4 rfl) ?_
      refine lv_iload hx hb dX6_makeProduction_75 (lv_at hl 5 rfl) ?_
      obtain ⟨r1, hr1, hV⟩ := jBind hV
      refine jVmI C dX6_makeProduction_77 (k_X3_add l D G a N M v1 v2 v3 v4 r1 hr1) jy_X3_add jq_10_22 jq_10_23 jq_11_0 ⟨rfl, rfl, Nat.le_of_ble_eq_true rfl, Nat.le_of_ble_eq_true rfl⟩ ⟨Nat.le_of_ble_eq_true rfl, Nat.le_of_ble_eq_true rfl⟩ (sX6_X3 hP) (dX6_X3 hD) hA hS (ci := 5) (iw := 0) rfl rfl rfl hl (rest := []) rfl (Nat.le_of_ble_eq_true rfl) (fun H locs hQ hz hkp hS => ?_)
      obtain ⟨M2, e3, hV⟩ := jLet hV
      have hP : va_P D vwCl (wSeas a G M2) H := by rw [e3]; exact jX6_X3 hP hD hkp hQ
      have hD : va_D A (wSeas a G M2) := jD (w := (wSeas a G M)) rfl hD
      refine lv_goto (tgt := 85) hx hb dX6_makeProduction_80 (by decide) ?_
      cases hV
      exact mRet C rfl dX6_makeProduction_85 rfl rfl hP hS
  · have hV := jT1 hV c5
    refine lv_bipush (v := -2) hx hb dX6_makeProduction_53 (by decide) ?_
    cases hV
    exact mRet C rfl dX6_makeProduction_55 rfl rfl hP hS
def F_X6_makeProduction (N : Nat)  (M : Nat → Nat → Int32) (v1 v2 v3 v4 : Int32) : Option (Int32 × (Nat → Nat → Int32)) := (if (jIn v1 (1 : Int32) (9 : Int32)) = 0 then (D_X6_makeProduction_46 N   M v1 v2 v3 v4 (0 : Int32)) else (if (jIn v2 (1 : Int32) (6 : Int32)) = 0 then (D_X6_makeProduction_46 N   M v1 v2 v3 v4 (0 : Int32)) else (if (jIn v3 (1 : Int32) (50 : Int32)) = 0 then (D_X6_makeProduction_46 N   M v1 v2 v3 v4 (0 : Int32)) else (if (jIn v4 (0 : Int32) (100 : Int32)) = 0 then (D_X6_makeProduction_46 N   M v1 v2 v3 v4 (0 : Int32)) else (D_X6_makeProduction_46 N   M v1 v2 v3 v4 (1 : Int32))))))
set_option maxHeartbeats 4000000 in
set_option maxRecDepth 100000 in
theorem k_X6_makeProduction (l : Launch) (D : va_G) (G : Nat → ClassId) (a : Nat → Nat) (N : Nat) (M : Nat → Nat → Int32) (v1 v2 v3 v4 : Int32) (r : (Int32 × (Nat → Nat → Int32))) (hV : F_X6_makeProduction N  M v1 v2 v3 v4 = some r) : mM l yX6_makeProduction (jws yX6_makeProduction cX6_makeProduction 6 (some .int)) ({ frames := 2, cells := 0, slots := 0, locals := 47 } : Room) [.ref (a 0), .int v1, .int v2, .int v3, .int v4] D G (wSeas a G M) (wSeas a G r.2) (some (.int r.1)) := by
  refine mM_of (by decide +kernel) (Nat.le_of_ble_eq_true rfl) (fun p e s m args below meth c ls A C hP hD hA hl => ?_)
  have C : Cx p s m args meth c cX6_makeProduction 6 RX6 (some .int) D G := C
  have hS : va_S A s.heap s.heap [] := va_S.rf
  obtain ⟨hx, hb, hr, hml, hts, hown, hlocks, hK0⟩ := id C
  have hK := hK0.1
  have hl : lv_has ls 6 [(0, .ref (a 0)), (1, .int v1), (2, .int v2), (3, .int v3), (4, .int v4)] := hl
  rw [F_X6_makeProduction] at hV
  refine lv_iload_n hx hb dX6_makeProduction_0 rfl (lv_at hl 1 rfl) ?_
  refine lv_iconst (v := 1) hx hb dX6_makeProduction_1 (by decide) ?_
  refine lv_bipush (v := 9) hx hb dX6_makeProduction_2 (by decide) ?_
  refine jSpNI C dX6_makeProduction_4 (host := "TheatreSeasons") (kt_X8_isWithin l D G    v1 (1 : Int32) (9 : Int32)) jy_X8_isWithin jn_47 jq_10_20 ⟨rfl, rfl, Nat.le_of_ble_eq_true rfl, Nat.le_of_ble_eq_true rfl⟩ ⟨Nat.le_of_ble_eq_true rfl, Nat.le_of_ble_eq_true rfl⟩ jE  hl (rest := []) rfl (Nat.le_of_ble_eq_true rfl) ?_
  refine lv_if_eq (tgt := 45) hx hb dX6_makeProduction_7 (by decide) (fun c13 => ?_) (fun c13 => ?_)
  · have hV := jT1 hV c13
    refine lv_iconst (v := 0) hx hb dX6_makeProduction_45 (by decide) ?_
    exact B_X6_makeProduction_46 C hA N a r   M v1 v2 v3 v4 (0 : Int32) _ _ _ hP hD hS (lv_sub hl [0, 1, 2, 3, 4] rfl) hV
  · have hV := jF1 hV c13
    refine lv_iload_n hx hb dX6_makeProduction_10 rfl (lv_at hl 2 rfl) ?_
    refine lv_iconst (v := 1) hx hb dX6_makeProduction_11 (by decide) ?_
    refine lv_bipush (v := 6) hx hb dX6_makeProduction_12 (by decide) ?_
    refine jSpNI C dX6_makeProduction_14 (host := "TheatreSeasons") (kt_X8_isWithin l D G    v2 (1 : Int32) (6 : Int32)) jy_X8_isWithin jn_47 jq_10_20 ⟨rfl, rfl, Nat.le_of_ble_eq_true rfl, Nat.le_of_ble_eq_true rfl⟩ ⟨Nat.le_of_ble_eq_true rfl, Nat.le_of_ble_eq_true rfl⟩ jE  hl (rest := []) rfl (Nat.le_of_ble_eq_true rfl) ?_
    refine lv_if_eq (tgt := 45) hx hb dX6_makeProduction_17 (by decide) (fun c12 => ?_) (fun c12 => ?_)
    · have hV := jT1 hV c12
      refine lv_iconst (v := 0) hx hb dX6_makeProduction_45 (by decide) ?_
      exact B_X6_makeProduction_46 C hA N a r   M v1 v2 v3 v4 (0 : Int32) _ _ _ hP hD hS (lv_sub hl [0, 1, 2, 3, 4] rfl) hV
    · have hV := jF1 hV c12
      refine lv_iload_n hx hb dX6_makeProduction_20 rfl (lv_at hl 3 rfl) ?_
      refine lv_iconst (v := 1) hx hb dX6_makeProduction_21 (by decide) ?_
      refine lv_bipush (v := 50) hx hb dX6_makeProduction_22 (by decide) ?_
      refine jSpNI C dX6_makeProduction_24 (host := "TheatreSeasons") (kt_X8_isWithin l D G    v3 (1 : Int32) (50 : Int32)) jy_X8_isWithin jn_47 jq_10_20 ⟨rfl, rfl, Nat.le_of_ble_eq_true rfl, Nat.le_of_ble_eq_true rfl⟩ ⟨Nat.le_of_ble_eq_true rfl, Nat.le_of_ble_eq_true rfl⟩ jE  hl (rest := []) rfl (Nat.le_of_ble_eq_true rfl) ?_
      refine lv_if_eq (tgt := 45) hx hb dX6_makeProduction_27 (by decide) (fun c11 => ?_) (fun c11 => ?_)
      · have hV := jT1 hV c11
        refine lv_iconst (v := 0) hx hb dX6_makeProduction_45 (by decide) ?_
        exact B_X6_makeProduction_46 C hA N a r   M v1 v2 v3 v4 (0 : Int32) _ _ _ hP hD hS (lv_sub hl [0, 1, 2, 3, 4] rfl) hV
      · have hV := jF1 hV c11
        refine lv_iload hx hb dX6_makeProduction_30 (lv_at hl 4 rfl) ?_
        refine lv_iconst (v := 0) hx hb dX6_makeProduction_32 (by decide) ?_
        refine lv_bipush (v := 100) hx hb dX6_makeProduction_33 (by decide) ?_
        refine jSpNI C dX6_makeProduction_35 (host := "TheatreSeasons") (kt_X8_isWithin l D G    v4 (0 : Int32) (100 : Int32)) jy_X8_isWithin jn_47 jq_10_20 ⟨rfl, rfl, Nat.le_of_ble_eq_true rfl, Nat.le_of_ble_eq_true rfl⟩ ⟨Nat.le_of_ble_eq_true rfl, Nat.le_of_ble_eq_true rfl⟩ jE  hl (rest := []) rfl (Nat.le_of_ble_eq_true rfl) ?_
        refine lv_if_eq (tgt := 45) hx hb dX6_makeProduction_38 (by decide) (fun c10 => ?_) (fun c10 => ?_)
        · have hV := jT1 hV c10
          refine lv_iconst (v := 0) hx hb dX6_makeProduction_45 (by decide) ?_
          exact B_X6_makeProduction_46 C hA N a r   M v1 v2 v3 v4 (0 : Int32) _ _ _ hP hD hS (lv_sub hl [0, 1, 2, 3, 4] rfl) hV
        · have hV := jF1 hV c10
          refine lv_iconst (v := 1) hx hb dX6_makeProduction_41 (by decide) ?_
          refine lv_goto (tgt := 46) hx hb dX6_makeProduction_42 (by decide) ?_
          exact B_X6_makeProduction_46 C hA N a r   M v1 v2 v3 v4 (1 : Int32) _ _ _ hP hD hS (lv_sub hl [0, 1, 2, 3, 4] rfl) hV
theorem jy_X6_datesWith : jY yX6_datesWith cX6_datesWith 5 (some .int) 3 := ⟨by decide +kernel, jq_13_18, jq_1_18⟩
def F_X6_datesWith (N : Nat)  (M : Nat → Nat → Int32) (v1 v2 v3 : Int32) : Option Int32 := ((F_X2_has N M v1).bind (fun r2 => (if r2 = 0 then (some ((rg 8 (M 6) v2) ||| ((1 : Int32) <<< (v3 &&& 31)))) else (jlet ((rg 8 (M 6) v2) &&& (((1 : Int32) <<< ((rg 24 (M 9) v1) &&& 31)) ^^^ (-1 : Int32))) (fun x4 => (some (x4 ||| ((1 : Int32) <<< (v3 &&& 31)))))))))
set_option maxHeartbeats 4000000 in
set_option maxRecDepth 100000 in
theorem k_X6_datesWith (l : Launch) (D : va_G) (G : Nat → ClassId) (a : Nat → Nat) (N : Nat) (M : Nat → Nat → Int32) (v1 v2 v3 : Int32) (r : Int32) (hV : F_X6_datesWith N  M v1 v2 v3 = some r) : pM l yX6_datesWith (jws yX6_datesWith cX6_datesWith 5 (some .int)) ({ frames := 2, cells := 0, slots := 0, locals := 43 } : Room) [.ref (a 0), .int v1, .int v2, .int v3] D G (wSeas a G M) (some (.int r)) := by
  refine pM_of (by decide +kernel) (Nat.le_of_ble_eq_true rfl) (fun p e s m args below meth c ls C hP hl => ?_)
  have C : Cx p s m args meth c cX6_datesWith 5 RX6 (some .int) D G := C
  obtain ⟨hx, hb, hr, hml, hts, hown, hlocks, hK0⟩ := id C
  have hK := hK0.1
  have hl : lv_has ls 5 [(0, .ref (a 0)), (1, .int v1), (2, .int v2), (3, .int v3)] := hl
  rw [F_X6_datesWith] at hV
  refine lv_aload_n hx hb dX6_datesWith_0 rfl (lv_at hl 0 rfl) ?_
  refine va_get (D := D) (ci := 8) (v := .ref (a 36)) (C := RX6) (T := TX6) (N := 7) hx hb hts ju_X6 hown hK hP 0 rfl rfl 3 (by decide) (hts _ jq_2_21) (fun _ h9 => h9) rfl dX6_datesWith_1 ?_
  refine va_getN (D := D) (ci := 5) (v := .ref (a 12)) (C := RX3) (T := TX3) (N := 6) (host := "TheatreSeasons") hx hb hts ju_X3 hown hK (sX6_X3 hP) 0 rfl rfl 5 (by decide) (va_Nw.use rfl (hK0.2 _ jn_8)) (fun _ h9 => h9) rfl dX6_datesWith_4 ?_
  refine lv_iload_n hx hb dX6_datesWith_7 rfl (lv_at hl 2 rfl) ?_
  refine jVpI C dX6_datesWith_8 (kt_X5_get l D G (a 12) (a 13) 8 (Nat.le_of_ble_eq_true rfl) (M 6) v2) jy_X5_get jq_6_12 jq_6_13 jq_6_14 ⟨rfl, rfl, Nat.le_of_ble_eq_true rfl, Nat.le_of_ble_eq_true rfl⟩ ⟨Nat.le_of_ble_eq_true rfl, Nat.le_of_ble_eq_true rfl⟩ (sX3_6 (sX6_X3 hP))  (ci := 7) (iw := 0) rfl rfl rfl hl (rest := []) rfl (Nat.le_of_ble_eq_true rfl) ?_
  refine lv_istore (lv' := [(4, .int (rg 8 (M 6) v2)), (0, .ref (a 0)), (1, .int v1), (2, .int v2), (3, .int v3)]) hx hb dX6_datesWith_11 hl (by decide) rfl (fun ls hl => ?_)
  refine lv_aload_n hx hb dX6_datesWith_13 rfl (lv_at hl 1 rfl) ?_
  refine va_get (D := D) (ci := 8) (v := .ref (a 37)) (C := RX6) (T := TX6) (N := 7) hx hb hts ju_X6 hown hK hP 0 rfl rfl 4 (by decide) (hts _ jq_3_1) (fun _ h9 => h9) rfl dX6_datesWith_14 ?_
  refine lv_iload_n hx hb dX6_datesWith_17 rfl (lv_at hl 2 rfl) ?_
  obtain ⟨r2, hr2, hV⟩ := jBind hV
  refine jVpI C dX6_datesWith_18 (k_X2_has l D G a N M v1 r2 hr2) jy_X2_has jq_13_19 jq_13_20 jq_13_21 ⟨rfl, rfl, Nat.le_of_ble_eq_true rfl, Nat.le_of_ble_eq_true rfl⟩ ⟨Nat.le_of_ble_eq_true rfl, Nat.le_of_ble_eq_true rfl⟩ (sX6_X2 hP)  (ci := 4) (iw := 0) rfl rfl rfl hl (rest := []) rfl (Nat.le_of_ble_eq_true rfl) ?_
  refine lv_if_eq (tgt := 44) hx hb dX6_datesWith_21 (by decide) (fun c6 => ?_) (fun c6 => ?_)
  · have hV := jT1 hV c6
    refine lv_iload hx hb dX6_datesWith_44 (lv_at hl 0 rfl) ?_
    refine lv_iconst (v := 1) hx hb dX6_datesWith_46 (by decide) ?_
    refine lv_iload_n hx hb dX6_datesWith_47 rfl (lv_at hl 4 rfl) ?_
    refine lv_ishl hx hb dX6_datesWith_48 ?_
    refine lv_ior hx hb dX6_datesWith_49 ?_
    exact pRet C rfl dX6_datesWith_50 rfl (Option.some.inj hV)
  · have hV := jF1 hV c6
    refine lv_iload hx hb dX6_datesWith_24 (lv_at hl 0 rfl) ?_
    refine lv_iconst (v := 1) hx hb dX6_datesWith_26 (by decide) ?_
    refine lv_aload_n hx hb dX6_datesWith_27 rfl (lv_at hl 1 rfl) ?_
    refine va_get (D := D) (ci := 8) (v := .ref (a 37)) (C := RX6) (T := TX6) (N := 7) hx hb hts ju_X6 hown hK hP 0 rfl rfl 4 (by decide) (hts _ jq_3_1) (fun _ h9 => h9) rfl dX6_datesWith_28 ?_
    refine va_getN (D := D) (ci := 4) (v := .ref (a 18)) (C := RX2) (T := TX2) (N := 7) (host := "TheatreSeasons") hx hb hts ju_X2 hown hK (sX6_X2 hP) 0 rfl rfl 3 (by decide) (va_Nw.use rfl (hK0.2 _ jn_15)) (fun _ h9 => h9) rfl dX6_datesWith_31 ?_
    refine lv_iload_n hx hb dX6_datesWith_34 rfl (lv_at hl 2 rfl) ?_
    refine jVpI C dX6_datesWith_35 (kt_X5_get l D G (a 18) (a 19) 24 (Nat.le_of_ble_eq_true rfl) (M 9) v1) jy_X5_get jq_6_12 jq_6_13 jq_6_14 ⟨rfl, rfl, Nat.le_of_ble_eq_true rfl, Nat.le_of_ble_eq_true rfl⟩ ⟨Nat.le_of_ble_eq_true rfl, Nat.le_of_ble_eq_true rfl⟩ (sX2_9 (sX6_X2 hP))  (ci := 7) (iw := 0) rfl rfl rfl hl (rest := [.int (1 : Int32), .int (rg 8 (M 6) v2)]) rfl (Nat.le_of_ble_eq_true rfl) ?_
    refine lv_ishl hx hb dX6_datesWith_38 ?_
    refine lv_iconst (v := -1) hx hb dX6_datesWith_39 (by decide) ?_
    refine lv_ixor hx hb dX6_datesWith_40 ?_
    refine lv_iand hx hb dX6_datesWith_41 ?_
    obtain ⟨x4, e5, hV⟩ := jLet hV
    rw [← e5]
    refine lv_istore (lv' := [(4, .int x4), (0, .ref (a 0)), (1, .int v1), (2, .int v2), (3, .int v3)]) hx hb dX6_datesWith_42 hl (by decide) rfl (fun ls hl => ?_)
    refine lv_iload hx hb dX6_datesWith_44 (lv_at hl 0 rfl) ?_
    refine lv_iconst (v := 1) hx hb dX6_datesWith_46 (by decide) ?_
    refine lv_iload_n hx hb dX6_datesWith_47 rfl (lv_at hl 4 rfl) ?_
    refine lv_ishl hx hb dX6_datesWith_48 ?_
    refine lv_ior hx hb dX6_datesWith_49 ?_
    exact pRet C rfl dX6_datesWith_50 rfl (Option.some.inj hV)
theorem jy_X6_placingRefusal : jY yX6_placingRefusal cX6_placingRefusal 8 (some .int) 4 := ⟨by decide +kernel, jq_13_8, jq_1_18⟩
def F_X6_placingRefusal (N : Nat)  (M : Nat → Nat → Int32) (v1 v2 v3 v4 : Int32) : Option Int32 := ((F_X2_findOther N M v1 v2 v3 v4).bind (fun r1 => (if r1 = (-1 : Int32) then ((F_X6_datesWith N M v1 v2 v4).bind (fun r2 => ((F_X3_staffRefusalIf N M (M 0 0) v2 r2).bind (fun r3 => (if r3 = 0 then ((F_X3_roomRefusalIf N M (M 0 1) v2 r2).bind (fun r4 => (some r4))) else (some r3)))))) else (some (jRef (1 : Int32) r1)))))
set_option maxHeartbeats 4000000 in
set_option maxRecDepth 100000 in
theorem k_X6_placingRefusal (l : Launch) (D : va_G) (G : Nat → ClassId) (a : Nat → Nat) (N : Nat) (M : Nat → Nat → Int32) (v1 v2 v3 v4 : Int32) (r : Int32) (hV : F_X6_placingRefusal N  M v1 v2 v3 v4 = some r) : pM l yX6_placingRefusal (jws yX6_placingRefusal cX6_placingRefusal 8 (some .int)) ({ frames := 3, cells := 0, slots := 0, locals := 74 } : Room) [.ref (a 0), .int v1, .int v2, .int v3, .int v4] D G (wSeas a G M) (some (.int r)) := by
  refine pM_of (by decide +kernel) (Nat.le_of_ble_eq_true rfl) (fun p e s m args below meth c ls C hP hl => ?_)
  have C : Cx p s m args meth c cX6_placingRefusal 8 RX6 (some .int) D G := C
  obtain ⟨hx, hb, hr, hml, hts, hown, hlocks, hK0⟩ := id C
  have hK := hK0.1
  have hl : lv_has ls 8 [(0, .ref (a 0)), (1, .int v1), (2, .int v2), (3, .int v3), (4, .int v4)] := hl
  rw [F_X6_placingRefusal] at hV
  refine lv_aload_n hx hb dX6_placingRefusal_0 rfl (lv_at hl 0 rfl) ?_
  refine va_get (D := D) (ci := 8) (v := .ref (a 37)) (C := RX6) (T := TX6) (N := 7) hx hb hts ju_X6 hown hK hP 0 rfl rfl 4 (by decide) (hts _ jq_3_1) (fun _ h9 => h9) rfl dX6_placingRefusal_1 ?_
  refine lv_iload_n hx hb dX6_placingRefusal_4 rfl (lv_at hl 1 rfl) ?_
  refine lv_iload_n hx hb dX6_placingRefusal_5 rfl (lv_at hl 2 rfl) ?_
  refine lv_iload_n hx hb dX6_placingRefusal_6 rfl (lv_at hl 3 rfl) ?_
  refine lv_iload hx hb dX6_placingRefusal_7 (lv_at hl 4 rfl) ?_
  obtain ⟨r1, hr1, hV⟩ := jBind hV
  refine jVpI C dX6_placingRefusal_9 (k_X2_findOther l D G a N M v1 v2 v3 v4 r1 hr1) jy_X2_findOther jq_13_9 jq_13_10 jq_13_11 ⟨rfl, rfl, Nat.le_of_ble_eq_true rfl, Nat.le_of_ble_eq_true rfl⟩ ⟨Nat.le_of_ble_eq_true rfl, Nat.le_of_ble_eq_true rfl⟩ (sX6_X2 hP)  (ci := 4) (iw := 0) rfl rfl rfl hl (rest := []) rfl (Nat.le_of_ble_eq_true rfl) ?_
  refine lv_istore (lv' := [(5, .int r1), (0, .ref (a 0)), (1, .int v1), (2, .int v2), (3, .int v3), (4, .int v4)]) hx hb dX6_placingRefusal_12 hl (by decide) rfl (fun ls hl => ?_)
  refine lv_iload hx hb dX6_placingRefusal_14 (lv_at hl 0 rfl) ?_
  refine lv_iconst (v := -1) hx hb dX6_placingRefusal_16 (by decide) ?_
  refine lv_icmp_eq (tgt := 27) hx hb dX6_placingRefusal_17 (by decide) (fun c7 => ?_) (fun c7 => ?_)
  · have hV := jT1 hV c7
    refine lv_aload_n hx hb dX6_placingRefusal_27 rfl (lv_at hl 1 rfl) ?_
    refine lv_iload_n hx hb dX6_placingRefusal_28 rfl (lv_at hl 2 rfl) ?_
    refine lv_iload_n hx hb dX6_placingRefusal_29 rfl (lv_at hl 3 rfl) ?_
    refine lv_iload hx hb dX6_placingRefusal_30 (lv_at hl 5 rfl) ?_
    obtain ⟨r2, hr2, hV⟩ := jBind hV
    refine jVpI C dX6_placingRefusal_32 (k_X6_datesWith l D G a N M v1 v2 v4 r2 hr2) jy_X6_datesWith jq_13_15 jq_13_16 jq_13_17 ⟨rfl, rfl, Nat.le_of_ble_eq_true rfl, Nat.le_of_ble_eq_true rfl⟩ ⟨Nat.le_of_ble_eq_true rfl, Nat.le_of_ble_eq_true rfl⟩ hP  (ci := 8) (iw := 0) rfl rfl rfl hl (rest := []) rfl (Nat.le_of_ble_eq_true rfl) ?_
    refine lv_istore (lv' := [(6, .int r2), (5, .int r1), (0, .ref (a 0)), (1, .int v1), (2, .int v2), (3, .int v3), (4, .int v4)]) hx hb dX6_placingRefusal_35 hl (by decide) rfl (fun ls hl => ?_)
    refine lv_aload_n hx hb dX6_placingRefusal_37 rfl (lv_at hl 2 rfl) ?_
    refine va_get (D := D) (ci := 8) (v := .ref (a 36)) (C := RX6) (T := TX6) (N := 7) hx hb hts ju_X6 hown hK hP 0 rfl rfl 3 (by decide) (hts _ jq_2_21) (fun _ h9 => h9) rfl dX6_placingRefusal_38 ?_
    refine lv_aload_n hx hb dX6_placingRefusal_41 rfl (lv_at hl 2 rfl) ?_
    refine va_get (D := D) (ci := 8) (v := .int (M 0 0)) (C := RX6) (T := TX6) (N := 7) hx hb hts ju_X6 hown hK hP 0 rfl rfl 1 (by decide) (hts _ jq_2_16) (fun _ h9 => h9) rfl dX6_placingRefusal_42 ?_
    refine lv_iload_n hx hb dX6_placingRefusal_45 rfl (lv_at hl 4 rfl) ?_
    refine lv_iload hx hb dX6_placingRefusal_46 (lv_at hl 0 rfl) ?_
    obtain ⟨r3, hr3, hV⟩ := jBind hV
    refine jVpI C dX6_placingRefusal_48 (k_X3_staffRefusalIf l D G a N M (M 0 0) v2 r2 r3 hr3) jy_X3_staffRefusalIf jq_13_23 jq_14_0 jq_14_1 ⟨rfl, rfl, Nat.le_of_ble_eq_true rfl, Nat.le_of_ble_eq_true rfl⟩ ⟨Nat.le_of_ble_eq_true rfl, Nat.le_of_ble_eq_true rfl⟩ (sX6_X3 hP)  (ci := 5) (iw := 0) rfl rfl rfl hl (rest := []) rfl (Nat.le_of_ble_eq_true rfl) ?_
    refine lv_istore (lv' := [(7, .int r3), (6, .int r2), (5, .int r1), (0, .ref (a 0)), (1, .int v1), (2, .int v2), (3, .int v3), (4, .int v4)]) hx hb dX6_placingRefusal_51 hl (by decide) rfl (fun ls hl => ?_)
    refine lv_iload hx hb dX6_placingRefusal_53 (lv_at hl 0 rfl) ?_
    refine lv_if_eq (tgt := 61) hx hb dX6_placingRefusal_55 (by decide) (fun c5 => ?_) (fun c5 => ?_)
    · have hV := jT1 hV c5
      refine lv_aload_n hx hb dX6_placingRefusal_61 rfl (lv_at hl 3 rfl) ?_
      refine va_get (D := D) (ci := 8) (v := .ref (a 36)) (C := RX6) (T := TX6) (N := 7) hx hb hts ju_X6 hown hK hP 0 rfl rfl 3 (by decide) (hts _ jq_2_21) (fun _ h9 => h9) rfl dX6_placingRefusal_62 ?_
      refine lv_aload_n hx hb dX6_placingRefusal_65 rfl (lv_at hl 3 rfl) ?_
      refine va_get (D := D) (ci := 8) (v := .int (M 0 1)) (C := RX6) (T := TX6) (N := 7) hx hb hts ju_X6 hown hK hP 0 rfl rfl 2 (by decide) (hts _ jq_2_17) (fun _ h9 => h9) rfl dX6_placingRefusal_66 ?_
      refine lv_iload_n hx hb dX6_placingRefusal_69 rfl (lv_at hl 5 rfl) ?_
      refine lv_iload hx hb dX6_placingRefusal_70 (lv_at hl 1 rfl) ?_
      obtain ⟨r4, hr4, hV⟩ := jBind hV
      refine jVpI C dX6_placingRefusal_72 (k_X3_roomRefusalIf l D G a N M (M 0 1) v2 r2 r4 hr4) jy_X3_roomRefusalIf jq_14_9 jq_14_10 jq_14_11 ⟨rfl, rfl, Nat.le_of_ble_eq_true rfl, Nat.le_of_ble_eq_true rfl⟩ ⟨Nat.le_of_ble_eq_true rfl, Nat.le_of_ble_eq_true rfl⟩ (sX6_X3 hP)  (ci := 5) (iw := 0) rfl rfl rfl hl (rest := []) rfl (Nat.le_of_ble_eq_true rfl) ?_
      exact pRet C rfl dX6_placingRefusal_75 rfl (Option.some.inj hV)
    · have hV := jF1 hV c5
      refine lv_iload hx hb dX6_placingRefusal_58 (lv_at hl 0 rfl) ?_
      exact pRet C rfl dX6_placingRefusal_60 rfl (Option.some.inj hV)
  · have hV := jF1 hV c7
    refine lv_iconst (v := 1) hx hb dX6_placingRefusal_20 (by decide) ?_
    refine lv_iload hx hb dX6_placingRefusal_21 (lv_at hl 0 rfl) ?_
    refine jSpNI C dX6_placingRefusal_23 (host := "TheatreSeasons") (kt_X8_refusal l D G    (1 : Int32) r1) jy_X8_refusal jn_50 jq_13_13 ⟨rfl, rfl, Nat.le_of_ble_eq_true rfl, Nat.le_of_ble_eq_true rfl⟩ ⟨Nat.le_of_ble_eq_true rfl, Nat.le_of_ble_eq_true rfl⟩ jE  hl (rest := []) rfl (Nat.le_of_ble_eq_true rfl) ?_
    exact pRet C rfl dX6_placingRefusal_26 rfl (Option.some.inj hV)
theorem jy_X6_makePerformance : jY yX6_makePerformance cX6_makePerformance 5 (some .int) 3 := ⟨by decide +kernel, jq_12_19, jq_1_18⟩
def F_X6_makePerformance (N : Nat)  (M : Nat → Nat → Int32) (v1 v2 v3 : Int32) : Option (Int32 × (Nat → Nat → Int32)) := ((F_X3_has N M v1).bind (fun r1 => (if r1 = 0 then (some ((-1 : Int32), M)) else (if (jIn v2 0 2) = 0 then (some ((-1 : Int32), M)) else (if (jIn v3 0 29) = 0 then (some ((-2 : Int32), M)) else (if (M 0 3) < (24 : Int32) then ((F_X6_placingRefusal N M (-1 : Int32) v1 v2 v3).bind (fun r4 => (if r4 = 0 then ((F_X6_datesWith N M (-1 : Int32) v1 v3).bind (fun r5 => (jlet (u1 M 6 (rs 8 (M 6) v1 r5)) (fun M7 => ((F_X2_add N M7 v1 v2 v3).bind (fun r8 => (jlet (mgX2 M7 r8.2) (fun M9 => (some (r8.1, M9)))))))))) else (some (r4, M))))) else (some ((-3 : Int32), M))))))))
set_option maxHeartbeats 4000000 in
set_option maxRecDepth 100000 in
theorem k_X6_makePerformance (l : Launch) (D : va_G) (G : Nat → ClassId) (a : Nat → Nat) (N : Nat) (M : Nat → Nat → Int32) (v1 v2 v3 : Int32) (r : (Int32 × (Nat → Nat → Int32))) (hV : F_X6_makePerformance N  M v1 v2 v3 = some r) : mM l yX6_makePerformance (jws yX6_makePerformance cX6_makePerformance 5 (some .int)) ({ frames := 4, cells := 0, slots := 0, locals := 101 } : Room) [.ref (a 0), .int v1, .int v2, .int v3] D G (wSeas a G M) (wSeas a G r.2) (some (.int r.1)) := by
  refine mM_of (by decide +kernel) (Nat.le_of_ble_eq_true rfl) (fun p e s m args below meth c ls A C hP hD hA hl => ?_)
  have C : Cx p s m args meth c cX6_makePerformance 5 RX6 (some .int) D G := C
  have hS : va_S A s.heap s.heap [] := va_S.rf
  obtain ⟨hx, hb, hr, hml, hts, hown, hlocks, hK0⟩ := id C
  have hK := hK0.1
  have hl : lv_has ls 5 [(0, .ref (a 0)), (1, .int v1), (2, .int v2), (3, .int v3)] := hl
  rw [F_X6_makePerformance] at hV
  refine lv_aload_n hx hb dX6_makePerformance_0 rfl (lv_at hl 0 rfl) ?_
  refine va_get (D := D) (ci := 8) (v := .ref (a 36)) (C := RX6) (T := TX6) (N := 7) hx hb hts ju_X6 hown hK hP 0 rfl rfl 3 (by decide) (hts _ jq_2_21) (fun _ h9 => h9) rfl dX6_makePerformance_1 ?_
  refine lv_iload_n hx hb dX6_makePerformance_4 rfl (lv_at hl 1 rfl) ?_
  obtain ⟨r1, hr1, hV⟩ := jBind hV
  refine jVpI C dX6_makePerformance_5 (k_X3_has l D G a N M v1 r1 hr1) jy_X3_has jq_12_20 jq_12_21 jq_12_22 ⟨rfl, rfl, Nat.le_of_ble_eq_true rfl, Nat.le_of_ble_eq_true rfl⟩ ⟨Nat.le_of_ble_eq_true rfl, Nat.le_of_ble_eq_true rfl⟩ (sX6_X3 hP)  (ci := 5) (iw := 0) rfl rfl rfl hl (rest := []) rfl (Nat.le_of_ble_eq_true rfl) ?_
  refine lv_if_eq (tgt := 18) hx hb dX6_makePerformance_8 (by decide) (fun c16 => ?_) (fun c16 => ?_)
  · have hV := jT1 hV c16
    refine lv_iconst (v := -1) hx hb dX6_makePerformance_18 (by decide) ?_
    cases hV
    exact mRet C rfl dX6_makePerformance_19 rfl rfl hP hS
  · have hV := jF1 hV c16
    refine lv_iload_n hx hb dX6_makePerformance_11 rfl (lv_at hl 2 rfl) ?_
    refine jSpNI C dX6_makePerformance_12 (host := "TheatreSeasons") (kt_X8_isStage l D G    v2) jy_X8_isStage jn_48 jq_13_0 ⟨rfl, rfl, Nat.le_of_ble_eq_true rfl, Nat.le_of_ble_eq_true rfl⟩ ⟨Nat.le_of_ble_eq_true rfl, Nat.le_of_ble_eq_true rfl⟩ jE  hl (rest := []) rfl (Nat.le_of_ble_eq_true rfl) ?_
    refine lv_if_ne (tgt := 20) hx hb dX6_makePerformance_15 (by decide) (fun c15 => ?_) (fun c15 => ?_)
    · have hV := jF1 hV c15
      refine lv_iload_n hx hb dX6_makePerformance_20 rfl (lv_at hl 3 rfl) ?_
      refine jSpNI C dX6_makePerformance_21 (host := "TheatreSeasons") (kt_X8_isDate l D G    v3) jy_X8_isDate jn_49 jq_13_3 ⟨rfl, rfl, Nat.le_of_ble_eq_true rfl, Nat.le_of_ble_eq_true rfl⟩ ⟨Nat.le_of_ble_eq_true rfl, Nat.le_of_ble_eq_true rfl⟩ jE  hl (rest := []) rfl (Nat.le_of_ble_eq_true rfl) ?_
      refine lv_if_ne (tgt := 30) hx hb dX6_makePerformance_24 (by decide) (fun c14 => ?_) (fun c14 => ?_)
      · have hV := jF1 hV c14
        refine lv_aload_n hx hb dX6_makePerformance_30 rfl (lv_at hl 0 rfl) ?_
        refine va_get (D := D) (ci := 8) (v := .ref (a 37)) (C := RX6) (T := TX6) (N := 7) hx hb hts ju_X6 hown hK hP 0 rfl rfl 4 (by decide) (hts _ jq_3_1) (fun _ h9 => h9) rfl dX6_makePerformance_31 ?_
        refine va_getN (D := D) (ci := 4) (v := .int (M 0 3)) (C := RX2) (T := TX2) (N := 7) (host := "TheatreSeasons") hx hb hts ju_X2 hown hK (sX6_X2 hP) 0 rfl rfl 0 (by decide) (va_Nw.use rfl (hK0.2 _ jn_9)) (fun _ h9 => h9) rfl dX6_makePerformance_34 ?_
        refine lv_bipush (v := 24) hx hb dX6_makePerformance_37 (by decide) ?_
        refine lv_icmp_lt (tgt := 45) hx hb dX6_makePerformance_39 (by decide) (fun c13 => ?_) (fun c13 => ?_)
        · have hV := jT1 hV c13
          refine lv_aload_n hx hb dX6_makePerformance_45 rfl (lv_at hl 0 rfl) ?_
          refine lv_iconst (v := -1) hx hb dX6_makePerformance_46 (by decide) ?_
          refine lv_iload_n hx hb dX6_makePerformance_47 rfl (lv_at hl 1 rfl) ?_
          refine lv_iload_n hx hb dX6_makePerformance_48 rfl (lv_at hl 2 rfl) ?_
          refine lv_iload_n hx hb dX6_makePerformance_49 rfl (lv_at hl 3 rfl) ?_
          obtain ⟨r4, hr4, hV⟩ := jBind hV
          refine jVpI C dX6_makePerformance_50 (k_X6_placingRefusal l D G a N M (-1 : Int32) v1 v2 v3 r4 hr4) jy_X6_placingRefusal jq_13_5 jq_13_6 jq_13_7 ⟨rfl, rfl, Nat.le_of_ble_eq_true rfl, Nat.le_of_ble_eq_true rfl⟩ ⟨Nat.le_of_ble_eq_true rfl, Nat.le_of_ble_eq_true rfl⟩ hP  (ci := 8) (iw := 0) rfl rfl rfl hl (rest := []) rfl (Nat.le_of_ble_eq_true rfl) ?_
          refine lv_istore (lv' := [(4, .int r4), (0, .ref (a 0)), (1, .int v1), (2, .int v2), (3, .int v3)]) hx hb dX6_makePerformance_53 hl (by decide) rfl (fun ls hl => ?_)
          refine lv_iload hx hb dX6_makePerformance_55 (lv_at hl 0 rfl) ?_
          refine lv_if_eq (tgt := 63) hx hb dX6_makePerformance_57 (by decide) (fun c12 => ?_) (fun c12 => ?_)
          · have hV := jT1 hV c12
            refine lv_aload_n hx hb dX6_makePerformance_63 rfl (lv_at hl 1 rfl) ?_
            refine va_get (D := D) (ci := 8) (v := .ref (a 36)) (C := RX6) (T := TX6) (N := 7) hx hb hts ju_X6 hown hK hP 0 rfl rfl 3 (by decide) (hts _ jq_2_21) (fun _ h9 => h9) rfl dX6_makePerformance_64 ?_
            refine va_getN (D := D) (ci := 5) (v := .ref (a 12)) (C := RX3) (T := TX3) (N := 6) (host := "TheatreSeasons") hx hb hts ju_X3 hown hK (sX6_X3 hP) 0 rfl rfl 5 (by decide) (va_Nw.use rfl (hK0.2 _ jn_8)) (fun _ h9 => h9) rfl dX6_makePerformance_67 ?_
            refine lv_iload_n hx hb dX6_makePerformance_70 rfl (lv_at hl 2 rfl) ?_
            refine lv_aload_n hx hb dX6_makePerformance_71 rfl (lv_at hl 1 rfl) ?_
            refine lv_iconst (v := -1) hx hb dX6_makePerformance_72 (by decide) ?_
            refine lv_iload_n hx hb dX6_makePerformance_73 rfl (lv_at hl 2 rfl) ?_
            refine lv_iload_n hx hb dX6_makePerformance_74 rfl (lv_at hl 4 rfl) ?_
            obtain ⟨r5, hr5, hV⟩ := jBind hV
            refine jVpI C dX6_makePerformance_75 (k_X6_datesWith l D G a N M (-1 : Int32) v1 v3 r5 hr5) jy_X6_datesWith jq_13_15 jq_13_16 jq_13_17 ⟨rfl, rfl, Nat.le_of_ble_eq_true rfl, Nat.le_of_ble_eq_true rfl⟩ ⟨Nat.le_of_ble_eq_true rfl, Nat.le_of_ble_eq_true rfl⟩ hP  (ci := 8) (iw := 0) rfl rfl rfl hl (rest := [.int v1, .ref (a 12)]) rfl (Nat.le_of_ble_eq_true rfl) ?_
            refine jVmV C dX6_makePerformance_78 (kt_X5_set l D G (a 12) (a 13) 8 (Nat.le_of_ble_eq_true rfl) (M 6) v1 r5) jy_X5_set jq_5_3 jq_5_4 jq_5_5 ⟨rfl, rfl, Nat.le_of_ble_eq_true rfl, Nat.le_of_ble_eq_true rfl⟩ ⟨Nat.le_of_ble_eq_true rfl, Nat.le_of_ble_eq_true rfl⟩ (sX3_6 (sX6_X3 hP)) (dX3_6 (dX6_X3 hD)) hA hS (ci := 7) (iw := 0) rfl rfl rfl hl (rest := []) rfl (Nat.le_of_ble_eq_true rfl) (fun H locs hQ hz hkp hS => ?_)
            obtain ⟨M7, e11, hV⟩ := jLet hV
            have hP : va_P D vwCl (wSeas a G M7) H := by rw [e11]; exact jX6_6 hP hD hkp hQ
            have hD : va_D A (wSeas a G M7) := jD (w := (wSeas a G M)) rfl hD
            refine lv_aload_n hx hb dX6_makePerformance_81 rfl (lv_at hl 1 rfl) ?_
            refine va_get (D := D) (ci := 8) (v := .ref (a 37)) (C := RX6) (T := TX6) (N := 7) hx hb hts ju_X6 hown hK hP 0 rfl rfl 4 (by decide) (hts _ jq_3_1) (fun _ h9 => h9) rfl dX6_makePerformance_82 ?_
            refine lv_iload_n hx hb dX6_makePerformance_85 rfl (lv_at hl 2 rfl) ?_
            refine lv_iload_n hx hb dX6_makePerformance_86 rfl (lv_at hl 3 rfl) ?_
            refine lv_iload_n hx hb dX6_makePerformance_87 rfl (lv_at hl 4 rfl) ?_
            obtain ⟨r8, hr8, hV⟩ := jBind hV
            refine jVmI C dX6_makePerformance_88 (k_X2_add l D G a N M7 v1 v2 v3 r8 hr8) jy_X2_add jq_14_13 jq_14_14 jq_14_15 ⟨rfl, rfl, Nat.le_of_ble_eq_true rfl, Nat.le_of_ble_eq_true rfl⟩ ⟨Nat.le_of_ble_eq_true rfl, Nat.le_of_ble_eq_true rfl⟩ (sX6_X2 hP) (dX6_X2 hD) hA hS (ci := 4) (iw := 0) rfl rfl rfl hl (rest := []) rfl (Nat.le_of_ble_eq_true rfl) (fun H locs hQ hz hkp hS => ?_)
            obtain ⟨M9, e10, hV⟩ := jLet hV
            have hP : va_P D vwCl (wSeas a G M9) H := by rw [e10]; exact jX6_X2 hP hD hkp hQ
            have hD : va_D A (wSeas a G M9) := jD (w := (wSeas a G M7)) rfl hD
            cases hV
            exact mRet C rfl dX6_makePerformance_91 rfl rfl hP hS
          · have hV := jF1 hV c12
            refine lv_iload hx hb dX6_makePerformance_60 (lv_at hl 0 rfl) ?_
            cases hV
            exact mRet C rfl dX6_makePerformance_62 rfl rfl hP hS
        · have hV := jF1 hV c13
          refine lv_bipush (v := -3) hx hb dX6_makePerformance_42 (by decide) ?_
          cases hV
          exact mRet C rfl dX6_makePerformance_44 rfl rfl hP hS
      · have hV := jT1 hV c14
        refine lv_bipush (v := -2) hx hb dX6_makePerformance_27 (by decide) ?_
        cases hV
        exact mRet C rfl dX6_makePerformance_29 rfl rfl hP hS
    · have hV := jT1 hV c15
      refine lv_iconst (v := -1) hx hb dX6_makePerformance_18 (by decide) ?_
      cases hV
      exact mRet C rfl dX6_makePerformance_19 rfl rfl hP hS
theorem jy_X6_seatsAt : jY yX6_seatsAt cX6_seatsAt 3 (some .int) 2 := ⟨by decide +kernel, jq_6_11, jq_1_18⟩
def F_X6_seatsAt (N : Nat)  (M : Nat → Nat → Int32) (v1 v2 : Int32) : Option Int32 := (if v2 = 0 then (some (rg 24 (M 10) v1)) else (if v2 = (1 : Int32) then (some (rg 24 (M 11) v1)) else ((F_X2_taken N M v1).bind (fun r3 => (some ((rg 3 (M 1) (rg 24 (M 8) v1)) - r3))))))
set_option maxHeartbeats 4000000 in
set_option maxRecDepth 100000 in
theorem k_X6_seatsAt (l : Launch) (D : va_G) (G : Nat → ClassId) (a : Nat → Nat) (N : Nat) (M : Nat → Nat → Int32) (v1 v2 : Int32) (r : Int32) (hV : F_X6_seatsAt N  M v1 v2 = some r) : pM l yX6_seatsAt (jws yX6_seatsAt cX6_seatsAt 3 (some .int)) ({ frames := 2, cells := 0, slots := 0, locals := 42 } : Room) [.ref (a 0), .int v1, .int v2] D G (wSeas a G M) (some (.int r)) := by
  refine pM_of (by decide +kernel) (Nat.le_of_ble_eq_true rfl) (fun p e s m args below meth c ls C hP hl => ?_)
  have C : Cx p s m args meth c cX6_seatsAt 3 RX6 (some .int) D G := C
  obtain ⟨hx, hb, hr, hml, hts, hown, hlocks, hK0⟩ := id C
  have hK := hK0.1
  have hl : lv_has ls 3 [(0, .ref (a 0)), (1, .int v1), (2, .int v2)] := hl
  rw [F_X6_seatsAt] at hV
  refine lv_iload_n hx hb dX6_seatsAt_0 rfl (lv_at hl 2 rfl) ?_
  refine lv_if_ne (tgt := 16) hx hb dX6_seatsAt_1 (by decide) (fun c7 => ?_) (fun c7 => ?_)
  · have hV := jF1 hV c7
    refine lv_iload_n hx hb dX6_seatsAt_16 rfl (lv_at hl 2 rfl) ?_
    refine lv_iconst (v := 1) hx hb dX6_seatsAt_17 (by decide) ?_
    refine lv_icmp_ne (tgt := 33) hx hb dX6_seatsAt_18 (by decide) (fun c5 => ?_) (fun c5 => ?_)
    · have hV := jF1 hV c5
      refine lv_aload_n hx hb dX6_seatsAt_33 rfl (lv_at hl 0 rfl) ?_
      refine va_get (D := D) (ci := 8) (v := .ref (a 2)) (C := RX6) (T := TX6) (N := 7) hx hb hts ju_X6 hown hK hP 0 rfl rfl 0 (by decide) (hts _ jq_2_15) (fun _ h9 => h9) rfl dX6_seatsAt_34 ?_
      refine lv_aload_n hx hb dX6_seatsAt_37 rfl (lv_at hl 0 rfl) ?_
      refine va_get (D := D) (ci := 8) (v := .ref (a 37)) (C := RX6) (T := TX6) (N := 7) hx hb hts ju_X6 hown hK hP 0 rfl rfl 4 (by decide) (hts _ jq_3_1) (fun _ h9 => h9) rfl dX6_seatsAt_38 ?_
      refine va_getN (D := D) (ci := 4) (v := .ref (a 16)) (C := RX2) (T := TX2) (N := 7) (host := "TheatreSeasons") hx hb hts ju_X2 hown hK (sX6_X2 hP) 0 rfl rfl 2 (by decide) (va_Nw.use rfl (hK0.2 _ jn_14)) (fun _ h9 => h9) rfl dX6_seatsAt_41 ?_
      refine lv_iload_n hx hb dX6_seatsAt_44 rfl (lv_at hl 1 rfl) ?_
      refine jVpI C dX6_seatsAt_45 (kt_X5_get l D G (a 16) (a 17) 24 (Nat.le_of_ble_eq_true rfl) (M 8) v1) jy_X5_get jq_6_12 jq_6_13 jq_6_14 ⟨rfl, rfl, Nat.le_of_ble_eq_true rfl, Nat.le_of_ble_eq_true rfl⟩ ⟨Nat.le_of_ble_eq_true rfl, Nat.le_of_ble_eq_true rfl⟩ (sX2_8 (sX6_X2 hP))  (ci := 7) (iw := 0) rfl rfl rfl hl (rest := [.ref (a 2)]) rfl (Nat.le_of_ble_eq_true rfl) ?_
      refine jVpI C dX6_seatsAt_48 (kt_X5_get l D G (a 2) (a 3) 3 (Nat.le_of_ble_eq_true rfl) (M 1) (rg 24 (M 8) v1)) jy_X5_get jq_6_12 jq_6_13 jq_6_14 ⟨rfl, rfl, Nat.le_of_ble_eq_true rfl, Nat.le_of_ble_eq_true rfl⟩ ⟨Nat.le_of_ble_eq_true rfl, Nat.le_of_ble_eq_true rfl⟩ (sX6_1 hP)  (ci := 7) (iw := 0) rfl rfl rfl hl (rest := []) rfl (Nat.le_of_ble_eq_true rfl) ?_
      refine lv_aload_n hx hb dX6_seatsAt_51 rfl (lv_at hl 0 rfl) ?_
      refine va_get (D := D) (ci := 8) (v := .ref (a 37)) (C := RX6) (T := TX6) (N := 7) hx hb hts ju_X6 hown hK hP 0 rfl rfl 4 (by decide) (hts _ jq_3_1) (fun _ h9 => h9) rfl dX6_seatsAt_52 ?_
      refine lv_iload_n hx hb dX6_seatsAt_55 rfl (lv_at hl 1 rfl) ?_
      obtain ⟨r3, hr3, hV⟩ := jBind hV
      refine jVpI C dX6_seatsAt_56 (k_X2_taken l D G a N M v1 r3 hr3) jy_X2_taken jq_6_16 jq_6_17 jq_6_18 ⟨rfl, rfl, Nat.le_of_ble_eq_true rfl, Nat.le_of_ble_eq_true rfl⟩ ⟨Nat.le_of_ble_eq_true rfl, Nat.le_of_ble_eq_true rfl⟩ (sX6_X2 hP)  (ci := 4) (iw := 0) rfl rfl rfl hl (rest := [.int (rg 3 (M 1) (rg 24 (M 8) v1))]) rfl (Nat.le_of_ble_eq_true rfl) ?_
      refine lv_isub hx hb dX6_seatsAt_59 ?_
      exact pRet C rfl dX6_seatsAt_60 rfl (Option.some.inj hV)
    · have hV := jT1 hV c5
      refine lv_aload_n hx hb dX6_seatsAt_21 rfl (lv_at hl 0 rfl) ?_
      refine va_get (D := D) (ci := 8) (v := .ref (a 37)) (C := RX6) (T := TX6) (N := 7) hx hb hts ju_X6 hown hK hP 0 rfl rfl 4 (by decide) (hts _ jq_3_1) (fun _ h9 => h9) rfl dX6_seatsAt_22 ?_
      refine va_getN (D := D) (ci := 4) (v := .ref (a 22)) (C := RX2) (T := TX2) (N := 7) (host := "TheatreSeasons") hx hb hts ju_X2 hown hK (sX6_X2 hP) 0 rfl rfl 5 (by decide) (va_Nw.use rfl (hK0.2 _ jn_18)) (fun _ h9 => h9) rfl dX6_seatsAt_25 ?_
      refine lv_iload_n hx hb dX6_seatsAt_28 rfl (lv_at hl 1 rfl) ?_
      refine jVpI C dX6_seatsAt_29 (kt_X5_get l D G (a 22) (a 23) 24 (Nat.le_of_ble_eq_true rfl) (M 11) v1) jy_X5_get jq_6_12 jq_6_13 jq_6_14 ⟨rfl, rfl, Nat.le_of_ble_eq_true rfl, Nat.le_of_ble_eq_true rfl⟩ ⟨Nat.le_of_ble_eq_true rfl, Nat.le_of_ble_eq_true rfl⟩ (sX2_11 (sX6_X2 hP))  (ci := 7) (iw := 0) rfl rfl rfl hl (rest := []) rfl (Nat.le_of_ble_eq_true rfl) ?_
      exact pRet C rfl dX6_seatsAt_32 rfl (Option.some.inj hV)
  · have hV := jT1 hV c7
    refine lv_aload_n hx hb dX6_seatsAt_4 rfl (lv_at hl 0 rfl) ?_
    refine va_get (D := D) (ci := 8) (v := .ref (a 37)) (C := RX6) (T := TX6) (N := 7) hx hb hts ju_X6 hown hK hP 0 rfl rfl 4 (by decide) (hts _ jq_3_1) (fun _ h9 => h9) rfl dX6_seatsAt_5 ?_
    refine va_getN (D := D) (ci := 4) (v := .ref (a 20)) (C := RX2) (T := TX2) (N := 7) (host := "TheatreSeasons") hx hb hts ju_X2 hown hK (sX6_X2 hP) 0 rfl rfl 4 (by decide) (va_Nw.use rfl (hK0.2 _ jn_17)) (fun _ h9 => h9) rfl dX6_seatsAt_8 ?_
    refine lv_iload_n hx hb dX6_seatsAt_11 rfl (lv_at hl 1 rfl) ?_
    refine jVpI C dX6_seatsAt_12 (kt_X5_get l D G (a 20) (a 21) 24 (Nat.le_of_ble_eq_true rfl) (M 10) v1) jy_X5_get jq_6_12 jq_6_13 jq_6_14 ⟨rfl, rfl, Nat.le_of_ble_eq_true rfl, Nat.le_of_ble_eq_true rfl⟩ ⟨Nat.le_of_ble_eq_true rfl, Nat.le_of_ble_eq_true rfl⟩ (sX2_10 (sX6_X2 hP))  (ci := 7) (iw := 0) rfl rfl rfl hl (rest := []) rfl (Nat.le_of_ble_eq_true rfl) ?_
    exact pRet C rfl dX6_seatsAt_15 rfl (Option.some.inj hV)
theorem jy_X6_sellSeats : jY yX6_sellSeats cX6_sellSeats 4 (some .int) 2 := ⟨by decide +kernel, jq_17_16, jq_1_18⟩
def F_X6_sellSeats (N : Nat)  (M : Nat → Nat → Int32) (v1 v2 : Int32) : Option (Int32 × (Nat → Nat → Int32)) := ((F_X2_has N M v1).bind (fun r1 => (if r1 = 0 then (some ((-1 : Int32), M)) else (if (jIn v2 (1 : Int32) (99 : Int32)) = 0 then (some ((-2 : Int32), M)) else ((F_X6_seatsAt N M v1 (2 : Int32)).bind (fun r3 => (if v2 ≤ r3 then (jlet (u1 M 10 (rs 24 (M 10) v1 (rg 24 (M 10) v1 + v2))) (fun M5 => (some ((r3 - v2), M5)))) else (some ((jRef (4 : Int32) r3), M)))))))))
set_option maxHeartbeats 4000000 in
set_option maxRecDepth 100000 in
theorem k_X6_sellSeats (l : Launch) (D : va_G) (G : Nat → ClassId) (a : Nat → Nat) (N : Nat) (M : Nat → Nat → Int32) (v1 v2 : Int32) (r : (Int32 × (Nat → Nat → Int32))) (hV : F_X6_sellSeats N  M v1 v2 = some r) : mM l yX6_sellSeats (jws yX6_sellSeats cX6_sellSeats 4 (some .int)) ({ frames := 3, cells := 0, slots := 0, locals := 64 } : Room) [.ref (a 0), .int v1, .int v2] D G (wSeas a G M) (wSeas a G r.2) (some (.int r.1)) := by
  refine mM_of (by decide +kernel) (Nat.le_of_ble_eq_true rfl) (fun p e s m args below meth c ls A C hP hD hA hl => ?_)
  have C : Cx p s m args meth c cX6_sellSeats 4 RX6 (some .int) D G := C
  have hS : va_S A s.heap s.heap [] := va_S.rf
  obtain ⟨hx, hb, hr, hml, hts, hown, hlocks, hK0⟩ := id C
  have hK := hK0.1
  have hl : lv_has ls 4 [(0, .ref (a 0)), (1, .int v1), (2, .int v2)] := hl
  rw [F_X6_sellSeats] at hV
  refine lv_aload_n hx hb dX6_sellSeats_0 rfl (lv_at hl 0 rfl) ?_
  refine va_get (D := D) (ci := 8) (v := .ref (a 37)) (C := RX6) (T := TX6) (N := 7) hx hb hts ju_X6 hown hK hP 0 rfl rfl 4 (by decide) (hts _ jq_3_1) (fun _ h9 => h9) rfl dX6_sellSeats_1 ?_
  refine lv_iload_n hx hb dX6_sellSeats_4 rfl (lv_at hl 1 rfl) ?_
  obtain ⟨r1, hr1, hV⟩ := jBind hV
  refine jVpI C dX6_sellSeats_5 (k_X2_has l D G a N M v1 r1 hr1) jy_X2_has jq_13_19 jq_13_20 jq_13_21 ⟨rfl, rfl, Nat.le_of_ble_eq_true rfl, Nat.le_of_ble_eq_true rfl⟩ ⟨Nat.le_of_ble_eq_true rfl, Nat.le_of_ble_eq_true rfl⟩ (sX6_X2 hP)  (ci := 4) (iw := 0) rfl rfl rfl hl (rest := []) rfl (Nat.le_of_ble_eq_true rfl) ?_
  refine lv_if_ne (tgt := 13) hx hb dX6_sellSeats_8 (by decide) (fun c10 => ?_) (fun c10 => ?_)
  · have hV := jF1 hV c10
    refine lv_iload_n hx hb dX6_sellSeats_13 rfl (lv_at hl 2 rfl) ?_
    refine lv_iconst (v := 1) hx hb dX6_sellSeats_14 (by decide) ?_
    refine lv_bipush (v := 99) hx hb dX6_sellSeats_15 (by decide) ?_
    refine jSpNI C dX6_sellSeats_17 (host := "TheatreSeasons") (kt_X8_isWithin l D G    v2 (1 : Int32) (99 : Int32)) jy_X8_isWithin jn_47 jq_10_20 ⟨rfl, rfl, Nat.le_of_ble_eq_true rfl, Nat.le_of_ble_eq_true rfl⟩ ⟨Nat.le_of_ble_eq_true rfl, Nat.le_of_ble_eq_true rfl⟩ jE  hl (rest := []) rfl (Nat.le_of_ble_eq_true rfl) ?_
    refine lv_if_ne (tgt := 26) hx hb dX6_sellSeats_20 (by decide) (fun c9 => ?_) (fun c9 => ?_)
    · have hV := jF1 hV c9
      refine lv_aload_n hx hb dX6_sellSeats_26 rfl (lv_at hl 0 rfl) ?_
      refine lv_iload_n hx hb dX6_sellSeats_27 rfl (lv_at hl 1 rfl) ?_
      refine lv_iconst (v := 2) hx hb dX6_sellSeats_28 (by decide) ?_
      obtain ⟨r3, hr3, hV⟩ := jBind hV
      refine jVpI C dX6_sellSeats_29 (k_X6_seatsAt l D G a N M v1 (2 : Int32) r3 hr3) jy_X6_seatsAt jq_6_8 jq_6_9 jq_6_10 ⟨rfl, rfl, Nat.le_of_ble_eq_true rfl, Nat.le_of_ble_eq_true rfl⟩ ⟨Nat.le_of_ble_eq_true rfl, Nat.le_of_ble_eq_true rfl⟩ hP  (ci := 8) (iw := 0) rfl rfl rfl hl (rest := []) rfl (Nat.le_of_ble_eq_true rfl) ?_
      refine lv_istore_n (lv' := [(3, .int r3), (0, .ref (a 0)), (1, .int v1), (2, .int v2)]) hx hb dX6_sellSeats_32 rfl hl (by decide) rfl (fun ls hl => ?_)
      refine lv_iload_n hx hb dX6_sellSeats_33 rfl (lv_at hl 0 rfl) ?_
      refine lv_iload_n hx hb dX6_sellSeats_34 rfl (lv_at hl 3 rfl) ?_
      refine lv_icmp_ge (tgt := 44) hx hb dX6_sellSeats_35 (by decide) (fun c8 => ?_) (fun c8 => ?_)
      · have hV := jT1 hV c8
        refine lv_aload_n hx hb dX6_sellSeats_44 rfl (lv_at hl 1 rfl) ?_
        refine va_get (D := D) (ci := 8) (v := .ref (a 37)) (C := RX6) (T := TX6) (N := 7) hx hb hts ju_X6 hown hK hP 0 rfl rfl 4 (by decide) (hts _ jq_3_1) (fun _ h9 => h9) rfl dX6_sellSeats_45 ?_
        refine va_getN (D := D) (ci := 4) (v := .ref (a 20)) (C := RX2) (T := TX2) (N := 7) (host := "TheatreSeasons") hx hb hts ju_X2 hown hK (sX6_X2 hP) 0 rfl rfl 4 (by decide) (va_Nw.use rfl (hK0.2 _ jn_17)) (fun _ h9 => h9) rfl dX6_sellSeats_48 ?_
        refine lv_iload_n hx hb dX6_sellSeats_51 rfl (lv_at hl 2 rfl) ?_
        refine lv_iload_n hx hb dX6_sellSeats_52 rfl (lv_at hl 3 rfl) ?_
        refine jVmV C dX6_sellSeats_53 (kt_X5_add l D G (a 20) (a 21) 24 (Nat.le_of_ble_eq_true rfl) (M 10) v1 v2) jy_X5_add jq_17_17 jq_16_13 jq_16_14 ⟨rfl, rfl, Nat.le_of_ble_eq_true rfl, Nat.le_of_ble_eq_true rfl⟩ ⟨Nat.le_of_ble_eq_true rfl, Nat.le_of_ble_eq_true rfl⟩ (sX2_10 (sX6_X2 hP)) (dX2_10 (dX6_X2 hD)) hA hS (ci := 7) (iw := 0) rfl rfl rfl hl (rest := []) rfl (Nat.le_of_ble_eq_true rfl) (fun H locs hQ hz hkp hS => ?_)
        obtain ⟨M5, e6, hV⟩ := jLet hV
        have hP : va_P D vwCl (wSeas a G M5) H := by rw [e6]; exact jX6_10 hP hD hkp hQ
        have hD : va_D A (wSeas a G M5) := jD (w := (wSeas a G M)) rfl hD
        refine lv_iload_n hx hb dX6_sellSeats_56 rfl (lv_at hl 0 rfl) ?_
        refine lv_iload_n hx hb dX6_sellSeats_57 rfl (lv_at hl 3 rfl) ?_
        refine lv_isub hx hb dX6_sellSeats_58 ?_
        cases hV
        exact mRet C rfl dX6_sellSeats_59 rfl rfl hP hS
      · have hV := jF1 hV c8
        refine lv_iconst (v := 4) hx hb dX6_sellSeats_38 (by decide) ?_
        refine lv_iload_n hx hb dX6_sellSeats_39 rfl (lv_at hl 0 rfl) ?_
        refine jSpNI C dX6_sellSeats_40 (host := "TheatreSeasons") (kt_X8_refusal l D G    (4 : Int32) r3) jy_X8_refusal jn_50 jq_13_13 ⟨rfl, rfl, Nat.le_of_ble_eq_true rfl, Nat.le_of_ble_eq_true rfl⟩ ⟨Nat.le_of_ble_eq_true rfl, Nat.le_of_ble_eq_true rfl⟩ jE  hl (rest := []) rfl (Nat.le_of_ble_eq_true rfl) ?_
        cases hV
        exact mRet C rfl dX6_sellSeats_43 rfl rfl hP hS
    · have hV := jT1 hV c9
      refine lv_bipush (v := -2) hx hb dX6_sellSeats_23 (by decide) ?_
      cases hV
      exact mRet C rfl dX6_sellSeats_25 rfl rfl hP hS
  · have hV := jT1 hV c10
    refine lv_iconst (v := -1) hx hb dX6_sellSeats_11 (by decide) ?_
    cases hV
    exact mRet C rfl dX6_sellSeats_12 rfl rfl hP hS
theorem jy_X6_makeRequest : jY yX6_makeRequest cX6_makeRequest 4 (some .int) 3 := ⟨by decide +kernel, jq_18_4, jq_1_18⟩
def F_X6_makeRequest (N : Nat)  (M : Nat → Nat → Int32) (v1 v2 v3 : Int32) : Option (Int32 × (Nat → Nat → Int32)) := ((F_X2_has N M v1).bind (fun r1 => (if r1 = 0 then (some ((-1 : Int32), M)) else (if (jIn v2 (1 : Int32) (99 : Int32)) = 0 then (some ((-2 : Int32), M)) else (if (jIn v3 (0 : Int32) (9 : Int32)) = 0 then (some ((-2 : Int32), M)) else (if (M 0 5) < (20 : Int32) then ((F_X4_add N M v1 v2 v3).bind (fun r4 => (jlet (mgX4 M r4.2) (fun M5 => (some (r4.1, M5)))))) else (some ((jRef (8 : Int32) (20 : Int32)), M))))))))
set_option maxHeartbeats 4000000 in
set_option maxRecDepth 100000 in
theorem k_X6_makeRequest (l : Launch) (D : va_G) (G : Nat → ClassId) (a : Nat → Nat) (N : Nat) (M : Nat → Nat → Int32) (v1 v2 v3 : Int32) (r : (Int32 × (Nat → Nat → Int32))) (hV : F_X6_makeRequest N  M v1 v2 v3 = some r) : mM l yX6_makeRequest (jws yX6_makeRequest cX6_makeRequest 4 (some .int)) ({ frames := 3, cells := 0, slots := 0, locals := 70 } : Room) [.ref (a 0), .int v1, .int v2, .int v3] D G (wSeas a G M) (wSeas a G r.2) (some (.int r.1)) := by
  refine mM_of (by decide +kernel) (Nat.le_of_ble_eq_true rfl) (fun p e s m args below meth c ls A C hP hD hA hl => ?_)
  have C : Cx p s m args meth c cX6_makeRequest 4 RX6 (some .int) D G := C
  have hS : va_S A s.heap s.heap [] := va_S.rf
  obtain ⟨hx, hb, hr, hml, hts, hown, hlocks, hK0⟩ := id C
  have hK := hK0.1
  have hl : lv_has ls 4 [(0, .ref (a 0)), (1, .int v1), (2, .int v2), (3, .int v3)] := hl
  rw [F_X6_makeRequest] at hV
  refine lv_aload_n hx hb dX6_makeRequest_0 rfl (lv_at hl 0 rfl) ?_
  refine va_get (D := D) (ci := 8) (v := .ref (a 37)) (C := RX6) (T := TX6) (N := 7) hx hb hts ju_X6 hown hK hP 0 rfl rfl 4 (by decide) (hts _ jq_3_1) (fun _ h9 => h9) rfl dX6_makeRequest_1 ?_
  refine lv_iload_n hx hb dX6_makeRequest_4 rfl (lv_at hl 1 rfl) ?_
  obtain ⟨r1, hr1, hV⟩ := jBind hV
  refine jVpI C dX6_makeRequest_5 (k_X2_has l D G a N M v1 r1 hr1) jy_X2_has jq_13_19 jq_13_20 jq_13_21 ⟨rfl, rfl, Nat.le_of_ble_eq_true rfl, Nat.le_of_ble_eq_true rfl⟩ ⟨Nat.le_of_ble_eq_true rfl, Nat.le_of_ble_eq_true rfl⟩ (sX6_X2 hP)  (ci := 4) (iw := 0) rfl rfl rfl hl (rest := []) rfl (Nat.le_of_ble_eq_true rfl) ?_
  refine lv_if_ne (tgt := 13) hx hb dX6_makeRequest_8 (by decide) (fun c11 => ?_) (fun c11 => ?_)
  · have hV := jF1 hV c11
    refine lv_iload_n hx hb dX6_makeRequest_13 rfl (lv_at hl 2 rfl) ?_
    refine lv_iconst (v := 1) hx hb dX6_makeRequest_14 (by decide) ?_
    refine lv_bipush (v := 99) hx hb dX6_makeRequest_15 (by decide) ?_
    refine jSpNI C dX6_makeRequest_17 (host := "TheatreSeasons") (kt_X8_isWithin l D G    v2 (1 : Int32) (99 : Int32)) jy_X8_isWithin jn_47 jq_10_20 ⟨rfl, rfl, Nat.le_of_ble_eq_true rfl, Nat.le_of_ble_eq_true rfl⟩ ⟨Nat.le_of_ble_eq_true rfl, Nat.le_of_ble_eq_true rfl⟩ jE  hl (rest := []) rfl (Nat.le_of_ble_eq_true rfl) ?_
    refine lv_if_eq (tgt := 33) hx hb dX6_makeRequest_20 (by decide) (fun c10 => ?_) (fun c10 => ?_)
    · have hV := jT1 hV c10
      refine lv_bipush (v := -2) hx hb dX6_makeRequest_33 (by decide) ?_
      cases hV
      exact mRet C rfl dX6_makeRequest_35 rfl rfl hP hS
    · have hV := jF1 hV c10
      refine lv_iload_n hx hb dX6_makeRequest_23 rfl (lv_at hl 3 rfl) ?_
      refine lv_iconst (v := 0) hx hb dX6_makeRequest_24 (by decide) ?_
      refine lv_bipush (v := 9) hx hb dX6_makeRequest_25 (by decide) ?_
      refine jSpNI C dX6_makeRequest_27 (host := "TheatreSeasons") (kt_X8_isWithin l D G    v3 (0 : Int32) (9 : Int32)) jy_X8_isWithin jn_47 jq_10_20 ⟨rfl, rfl, Nat.le_of_ble_eq_true rfl, Nat.le_of_ble_eq_true rfl⟩ ⟨Nat.le_of_ble_eq_true rfl, Nat.le_of_ble_eq_true rfl⟩ jE  hl (rest := []) rfl (Nat.le_of_ble_eq_true rfl) ?_
      refine lv_if_ne (tgt := 36) hx hb dX6_makeRequest_30 (by decide) (fun c9 => ?_) (fun c9 => ?_)
      · have hV := jF1 hV c9
        refine lv_aload_n hx hb dX6_makeRequest_36 rfl (lv_at hl 0 rfl) ?_
        refine va_get (D := D) (ci := 8) (v := .ref (a 39)) (C := RX6) (T := TX6) (N := 7) hx hb hts ju_X6 hown hK hP 0 rfl rfl 6 (by decide) (hts _ jq_3_9) (fun _ h9 => h9) rfl dX6_makeRequest_37 ?_
        refine va_getN (D := D) (ci := 6) (v := .int (M 0 5)) (C := RX4) (T := TX4) (N := 4) (host := "TheatreSeasons") hx hb hts ju_X4 hown hK (sX6_X4 hP) 0 rfl rfl 0 (by decide) (va_Nw.use rfl (hK0.2 _ jn_25)) (fun _ h9 => h9) rfl dX6_makeRequest_40 ?_
        refine lv_bipush (v := 20) hx hb dX6_makeRequest_43 (by decide) ?_
        refine lv_icmp_lt (tgt := 56) hx hb dX6_makeRequest_45 (by decide) (fun c8 => ?_) (fun c8 => ?_)
        · have hV := jT1 hV c8
          refine lv_aload_n hx hb dX6_makeRequest_56 rfl (lv_at hl 0 rfl) ?_
          refine va_get (D := D) (ci := 8) (v := .ref (a 39)) (C := RX6) (T := TX6) (N := 7) hx hb hts ju_X6 hown hK hP 0 rfl rfl 6 (by decide) (hts _ jq_3_9) (fun _ h9 => h9) rfl dX6_makeRequest_57 ?_
          refine lv_iload_n hx hb dX6_makeRequest_60 rfl (lv_at hl 1 rfl) ?_
          refine lv_iload_n hx hb dX6_makeRequest_61 rfl (lv_at hl 2 rfl) ?_
          refine lv_iload_n hx hb dX6_makeRequest_62 rfl (lv_at hl 3 rfl) ?_
          obtain ⟨r4, hr4, hV⟩ := jBind hV
          refine jVmI C dX6_makeRequest_63 (k_X4_add l D G a N M v1 v2 v3 r4 hr4) jy_X4_add jq_18_5 jq_18_6 jq_18_7 ⟨rfl, rfl, Nat.le_of_ble_eq_true rfl, Nat.le_of_ble_eq_true rfl⟩ ⟨Nat.le_of_ble_eq_true rfl, Nat.le_of_ble_eq_true rfl⟩ (sX6_X4 hP) (dX6_X4 hD) hA hS (ci := 6) (iw := 0) rfl rfl rfl hl (rest := []) rfl (Nat.le_of_ble_eq_true rfl) (fun H locs hQ hz hkp hS => ?_)
          obtain ⟨M5, e6, hV⟩ := jLet hV
          have hP : va_P D vwCl (wSeas a G M5) H := by rw [e6]; exact jX6_X4 hP hD hkp hQ
          have hD : va_D A (wSeas a G M5) := jD (w := (wSeas a G M)) rfl hD
          cases hV
          exact mRet C rfl dX6_makeRequest_66 rfl rfl hP hS
        · have hV := jF1 hV c8
          refine lv_bipush (v := 8) hx hb dX6_makeRequest_48 (by decide) ?_
          refine lv_bipush (v := 20) hx hb dX6_makeRequest_50 (by decide) ?_
          refine jSpNI C dX6_makeRequest_52 (host := "TheatreSeasons") (kt_X8_refusal l D G    (8 : Int32) (20 : Int32)) jy_X8_refusal jn_50 jq_13_13 ⟨rfl, rfl, Nat.le_of_ble_eq_true rfl, Nat.le_of_ble_eq_true rfl⟩ ⟨Nat.le_of_ble_eq_true rfl, Nat.le_of_ble_eq_true rfl⟩ jE  hl (rest := []) rfl (Nat.le_of_ble_eq_true rfl) ?_
          cases hV
          exact mRet C rfl dX6_makeRequest_55 rfl rfl hP hS
      · have hV := jT1 hV c9
        refine lv_bipush (v := -2) hx hb dX6_makeRequest_33 (by decide) ?_
        cases hV
        exact mRet C rfl dX6_makeRequest_35 rfl rfl hP hS
  · have hV := jT1 hV c11
    refine lv_iconst (v := -1) hx hb dX6_makeRequest_11 (by decide) ?_
    cases hV
    exact mRet C rfl dX6_makeRequest_12 rfl rfl hP hS
