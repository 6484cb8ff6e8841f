theorem jHist {D : va_G} {A : Nat → Prop} {w w1 w2 : va_W} {H H1 : Heap} (hP : va_P D vwCl w H) (hD : va_D A w) (hk : ∀ q : Nat, q < H.size → ¬ va_A w1 H.size q → H1[q]? = H[q]?) (h1 : va_P D vwCl w2 H1) : va_P D vwCl w2 H1 := h1
theorem jy_X8_keepRefusal : jY yX8_keepRefusal cX8_keepRefusal 2 none 1 := ⟨by decide +kernel, jq_12_6, jq_1_2⟩
def F_X8_keepRefusal (N : Nat)  (M : Nat → Nat → Nat → Int32) (v1 : Int32) : Option (Nat → Nat → Nat → Int32) := (if (-1000 : Int32) < v1 then (some M) else (jlet (stT M 1 ((-v1) / (1000 : Int32))) (fun M1 => (jlet (stT M1 2 ((-v1) - (-v1) / (1000 : Int32) * (1000 : Int32))) (fun M2 => (some M2))))))
set_option maxHeartbeats 4000000 in
set_option maxRecDepth 100000 in
theorem k_X8_keepRefusal (l : Launch) (D : va_G) (G : Nat → ClassId) (B : Nat → Nat → Nat) (N : Nat) (M : Nat → Nat → Nat → Int32) (v1 : Int32) (r : (Nat → Nat → Nat → Int32)) (hV : F_X8_keepRefusal N  M v1 = some r) : mM l yX8_keepRefusal (jws yX8_keepRefusal cX8_keepRefusal 2 none) ({ frames := 0, cells := 0, slots := 0, locals := 0 } : Room) [.ref (B 9 0), .int v1] D G (wTS B G M) (wTS B G r) none := by
  refine mM_of (by decide +kernel) (Nat.le_of_ble_eq_true rfl) (fun p e s m args below meth c ls A C hP hD hA hl => ?_)
  have C : Cx p s m args meth c cX8_keepRefusal 2 RX8 none D G := C
  have hS : va_S A s.heap s.heap [] := va_S.rf
  obtain ⟨hx, hb, hr, hml, hts, hown, hlocks, hK0⟩ := id C
  have hK := hK0.1
  have hl : lv_has ls 2 [(0, .ref (B 9 0)), (1, .int v1)] := hl
  rw [F_X8_keepRefusal] at hV
  refine lv_iload_n hx hb dX8_keepRefusal_0 rfl (lv_at hl 1 rfl) ?_
  refine lv_sipush (v := -1000) hx hb dX8_keepRefusal_1 (by decide) ?_
  refine lv_icmp_gt (tgt := 27) hx hb dX8_keepRefusal_4 (by decide) (fun c5 => ?_) (fun c5 => ?_)
  · have hV := jT1 hV c5
    cases hV
    exact mRetV C dX8_keepRefusal_27 hP hS
  · have hV := jF1 hV c5
    refine lv_aload_n hx hb dX8_keepRefusal_7 rfl (lv_at hl 0 rfl) ?_
    refine lv_iload_n hx hb dX8_keepRefusal_8 rfl (lv_at hl 1 rfl) ?_
    refine lv_ineg hx hb dX8_keepRefusal_9 ?_
    refine lv_sipush (v := 1000) hx hb dX8_keepRefusal_10 (by decide) ?_
    refine lv_idiv hx hb dX8_keepRefusal_13 (by decide) ?_
    refine va_put (D := D) (ci := 10) (v := .int ((-v1) / (1000 : Int32))) (ty := .int) (C := RX8) (T := TX8) (N := 8) hx hb hts ju_X8 tyX8 tyX8_ok nmX8 hown hK hP hD hS 0 rfl rfl 5 (by decide) (hts _ jq_2_5) (fun _ h9 => h9) rfl (by decide +kernel) rfl rfl (Nat.le_of_ble_eq_true rfl) dX8_keepRefusal_14 (fun H locs hP hD hS => ?_)
    obtain ⟨M1, e4, hV⟩ := jLet hV
    have hP : va_P D vwCl (wTS B G M1) H := by rw [e4, wTS_st]; exact hP
    have hD : va_D A (wTS B G M1) := by rw [e4, wTS_st]; exact hD
    refine lv_aload_n hx hb dX8_keepRefusal_17 rfl (lv_at hl 0 rfl) ?_
    refine lv_iload_n hx hb dX8_keepRefusal_18 rfl (lv_at hl 1 rfl) ?_
    refine lv_ineg hx hb dX8_keepRefusal_19 ?_
    refine lv_sipush (v := 1000) hx hb dX8_keepRefusal_20 (by decide) ?_
    refine lv_irem hx hb dX8_keepRefusal_23 (by decide) ?_
    refine va_put (D := D) (ci := 10) (v := .int ((-v1) - (-v1) / (1000 : Int32) * (1000 : Int32))) (ty := .int) (C := RX8) (T := TX8) (N := 8) hx hb hts ju_X8 tyX8 tyX8_ok nmX8 hown hK hP hD hS 0 rfl rfl 6 (by decide) (hts _ jq_2_6) (fun _ h9 => h9) rfl (by decide +kernel) rfl rfl (Nat.le_of_ble_eq_true rfl) dX8_keepRefusal_24 (fun H locs hP hD hS => ?_)
    obtain ⟨M2, e3, hV⟩ := jLet hV
    have hP : va_P D vwCl (wTS B G M2) H := by rw [e3, wTS_st]; exact hP
    have hD : va_D A (wTS B G M2) := by rw [e3, wTS_st]; exact hD
    cases hV
    exact mRetV C dX8_keepRefusal_27 hP hS
theorem jy_X8_closeChange : jY yX8_closeChange cX8_closeChange 2 (some .int) 1 := ⟨by decide +kernel, jq_11_6, jq_1_2⟩
def D_X8_closeChange_37 (N : Nat)  (M : Nat → Nat → Nat → Int32) (v1 : Int32) (s0 : Int32) : Option (Int32 × Int32 × (Nat → Nat → Nat → Int32)) := (if (ckArgument s0) = 0 then (if v1 = (-3 : Int32) then (some ((3 : Int32), (0 : Int32), M)) else ((F_X8_keepRefusal N M v1).bind (fun r2 => (some ((4 : Int32), (0 : Int32), r2))))) else (some ((ckArgument s0), (0 : Int32), M)))
set_option maxHeartbeats 4000000 in
set_option maxRecDepth 100000 in
theorem B_X8_closeChange_37 {p : Program} {l : Launch} {e : Env} {s : State} {m : MethodId} {args : Array Value} {below : List Frame} {meth : Method} {c : Code} {D : va_G} {G : Nat → ClassId} {A : Nat → Prop} (C : Cx p s m args meth c cX8_closeChange 2 RX8 (some .int) D G) (hA : ∀ q : Nat, s.heap.size ≤ q → A q) (ks va : Nat → Nat) (hZ : jZ ks va A s s.heap) (hno : ∀ x ∈ c.exceptionTable.toList, False) (hl0 : l.stackTraces = false) (N : Nat) (B : Nat → Nat → Nat) (r : (Int32 × Int32 × (Nat → Nat → Nat → Int32))) : (∀ (M : Nat → Nat → Nat → Int32) (v1 : Int32) (s0 : Int32) (ls : Array Slot) (H : Heap) (locs : List Loc), va_P D vwCl (wTS B G M) H → va_D A (wTS B G M) → va_S A s.heap H locs → lv_has ls 2 [(0, .ref (B 9 0)), (1, .int v1)] → D_X8_closeChange_37 N   M v1 s0 = some r → W p l e ({ frames := 8, cells := 3, slots := 18, locals := 120 } : Room) s m args below meth c H locs 1 6 (vx_MQ below (xQ D (wTS B G r.2.2) r.1 (some (.int r.2.1)) A) (xX D (wTS B G r.2.2) r.1 A) args s 3 18 A) (F0 m 37 ls [.int s0])) := by
  have C := C
  obtain ⟨hx, hb, hr, hml, hts, hown, hlocks, hK0⟩ := id C
  have hK := hK0.1
  intro M v1 s0 ls H locs hP hD hS hl hV
  rw [D_X8_closeChange_37] at hV
  refine jSx C dX8_closeChange_37 (kx_X8_checkArgument l hl0 D G ks va s0) jy_X8_checkArgument jq_12_0 jq_12_1 ⟨Nat.le_of_ble_eq_true rfl, Nat.le_of_ble_eq_true rfl⟩ ⟨Nat.le_of_ble_eq_true rfl, Nat.le_of_ble_eq_true rfl⟩ hZ jE (jDnd.mpr ⟨List.nodup_nil, fun q h => nomatch h⟩) hA hS hl (rest := []) rfl (Nat.le_of_ble_eq_true rfl) (fun H locs hQ hz hkp hS => ⟨fun hk => ?_, fun hk ce q hce hcv hcl => ?_⟩)
  · have hP : va_P D vwCl (wTS B G M) H := hP.kept (fun k q hq => hkp q.1 (hP k q hq).lt (fun h => h.elim (fun ⟨_, _, h⟩ => by simp at h) (fun h => Nat.lt_irrefl _ (Nat.lt_of_lt_of_le (hP k q hq).lt h))))
    have hV := jT1 hV hk
    refine W.eq (g2 := F0 m 40 ls []) rfl ?_
    refine lv_iload_n hx hb dX8_closeChange_40 rfl (lv_at hl 1 rfl) ?_
    refine lv_bipush (v := -3) hx hb dX8_closeChange_41 (by decide) ?_
    refine lv_icmp_ne (tgt := 57) hx hb dX8_closeChange_43 (by decide) (fun c5 => ?_) (fun c5 => ?_)
    · have hV := jF1 hV c5
      refine lv_aload_n hx hb dX8_closeChange_57 rfl (lv_at hl 0 rfl) ?_
      refine lv_iload_n hx hb dX8_closeChange_58 rfl (lv_at hl 1 rfl) ?_
      obtain ⟨r2, hr2, hV⟩ := jBind hV
      refine jVmV C dX8_closeChange_59 (k_X8_keepRefusal l D G B N M v1 r2 hr2) jy_X8_keepRefusal jq_12_3 jq_12_4 jq_12_5 ⟨rfl, rfl, Nat.le_of_ble_eq_true rfl, Nat.le_of_ble_eq_true rfl⟩ ⟨Nat.le_of_ble_eq_true rfl, Nat.le_of_ble_eq_true rfl⟩ hP hD hA hS (ci := 10) (iw := 0) rfl rfl rfl hl (rest := []) rfl (Nat.le_of_ble_eq_true rfl) (fun H locs hQ hz hkp hS => ?_)
      have hP : va_P D vwCl (wTS B G r2) H := hQ
      have hD : va_D A (wTS B G r2) := jD (w := (wTS B G M)) (dTS _ _) hD
      obtain ⟨sa3, hsa3⟩ := hZ.2.2.2.2.2.2 _ jms_343
      cases hV
      exact xThrowW C hno hl0 (by decide) (by decide) jq_11_9 jq_11_10 hsa3 (xat_345 C) xgd_345_341 hZ hS hA hP hl dX8_closeChange_62 dX8_closeChange_65 dX8_closeChange_66 dX8_closeChange_69 dX8_closeChange_72 (rest := []) (Nat.le_of_ble_eq_true rfl) (Nat.le_of_ble_eq_true rfl) (Nat.le_of_ble_eq_true rfl) (Nat.le_of_ble_eq_true rfl) (by decide) (by decide) (show (4 : Int32) ≠ 0 by decide) (show exN 4 = "java/lang/UnsupportedOperationException" by decide)
    · have hV := jT1 hV c5
      obtain ⟨sa4, hsa4⟩ := hZ.2.2.2.2.2.2 _ jms_339
      cases hV
      exact xThrowW C hno hl0 (by decide) (by decide) jq_11_7 jq_11_8 hsa4 (xat_296 C) xgd_296_292 hZ hS hA hP hl dX8_closeChange_46 dX8_closeChange_49 dX8_closeChange_50 dX8_closeChange_53 dX8_closeChange_56 (rest := []) (Nat.le_of_ble_eq_true rfl) (Nat.le_of_ble_eq_true rfl) (Nat.le_of_ble_eq_true rfl) (Nat.le_of_ble_eq_true rfl) (by decide) (by decide) (show (3 : Int32) ≠ 0 by decide) (show exN 3 = "java/lang/IllegalStateException" by decide)
  · have hP : va_P D vwCl (wTS B G M) H := hP.kept (fun k q hq => hkp q.1 (hP k q hq).lt (fun h => h.elim (fun ⟨_, _, h⟩ => by simp at h) (fun h => Nat.lt_irrefl _ (Nat.lt_of_lt_of_le (hP k q hq).lt h))))
    have hV := jF1 hV hk
    cases hV
    exact xOut C hno hk hce hcv hcl (by decide) (by decide) hP hS
def F_X8_closeChange (N : Nat)  (M : Nat → Nat → Nat → Int32) (v1 : Int32) : Option (Int32 × Int32 × (Nat → Nat → Nat → Int32)) := (if v1 < 0 then (if v1 = (-1 : Int32) then (if (ckIndex (0 : Int32)) = 0 then (if v1 = (-2 : Int32) then (D_X8_closeChange_37 N   M v1 (0 : Int32)) else (D_X8_closeChange_37 N   M v1 (1 : Int32))) else (some ((ckIndex (0 : Int32)), (0 : Int32), M))) else (if (ckIndex (1 : Int32)) = 0 then (if v1 = (-2 : Int32) then (D_X8_closeChange_37 N   M v1 (0 : Int32)) else (D_X8_closeChange_37 N   M v1 (1 : Int32))) else (some ((ckIndex (1 : Int32)), (0 : Int32), M)))) else (jlet (hClose M) (fun M12 => (some ((0 : Int32), v1, M12)))))
set_option maxHeartbeats 4000000 in
set_option maxRecDepth 100000 in
theorem k_X8_closeChange (l : Launch) (hl0 : l.stackTraces = false) (D : va_G) (G : Nat → ClassId) (B : Nat → Nat → Nat) (ks va : Nat → Nat) (N : Nat) (M : Nat → Nat → Nat → Int32) (v1 : Int32) (r : (Int32 × Int32 × (Nat → Nat → Nat → Int32))) (hV : F_X8_closeChange N  M v1 = some r) : xM l yX8_closeChange (jws yX8_closeChange cX8_closeChange 2 (some .int)) ({ frames := 8, cells := 3, slots := 18, locals := 120 } : Room) [.ref (B 9 0), .int v1] D G ks va (wTS B G M) (wTS B G r.2.2) r.1 (some (.int r.2.1)) := by
  refine xM_of (by decide +kernel) (Nat.le_of_ble_eq_true rfl) (fun p e s m args below meth c ls A C hno hP hD hA hZ hl => ?_)
  have C : Cx p s m args meth c cX8_closeChange 2 RX8 (some .int) D G := C
  have hS : va_S A s.heap s.heap [] := va_S.rf
  obtain ⟨hx, hb, hr, hml, hts, hown, hlocks, hK0⟩ := id C
  have hK := hK0.1
  have hl : lv_has ls 2 [(0, .ref (B 9 0)), (1, .int v1)] := hl
  rw [F_X8_closeChange] at hV
  refine lv_iload_n hx hb dX8_closeChange_0 rfl (lv_at hl 1 rfl) ?_
  refine lv_if_lt (tgt := 13) hx hb dX8_closeChange_1 (by decide) (fun c14 => ?_) (fun c14 => ?_)
  · have hV := jT1 hV c14
    refine lv_iload_n hx hb dX8_closeChange_13 rfl (lv_at hl 1 rfl) ?_
    refine lv_iconst (v := -1) hx hb dX8_closeChange_14 (by decide) ?_
    refine lv_icmp_eq (tgt := 22) hx hb dX8_closeChange_15 (by decide) (fun c10 => ?_) (fun c10 => ?_)
    · have hV := jT1 hV c10
      refine lv_iconst (v := 0) hx hb dX8_closeChange_22 (by decide) ?_
      refine jSx C dX8_closeChange_23 (kx_X8_checkIndex l hl0 D G ks va (0 : Int32)) jy_X8_checkIndex jq_11_19 jq_11_20 ⟨Nat.le_of_ble_eq_true rfl, Nat.le_of_ble_eq_true rfl⟩ ⟨Nat.le_of_ble_eq_true rfl, Nat.le_of_ble_eq_true rfl⟩ hZ jE (jDnd.mpr ⟨List.nodup_nil, fun q h => nomatch h⟩) hA hS hl (rest := []) rfl (Nat.le_of_ble_eq_true rfl) (fun H locs hQ hz hkp hS => ⟨fun hk => ?_, fun hk ce q hce hcv hcl => ?_⟩)
      · have hP : va_P D vwCl (wTS B G M) H := hP.kept (fun k q hq => hkp q.1 (hP k q hq).lt (fun h => h.elim (fun ⟨_, _, h⟩ => by simp at h) (fun h => Nat.lt_irrefl _ (Nat.lt_of_lt_of_le (hP k q hq).lt h))))
        have hV := jT1 hV hk
        refine W.eq (g2 := F0 m 26 ls []) rfl ?_
        refine lv_iload_n hx hb dX8_closeChange_26 rfl (lv_at hl 1 rfl) ?_
        refine lv_bipush (v := -2) hx hb dX8_closeChange_27 (by decide) ?_
        refine lv_icmp_eq (tgt := 36) hx hb dX8_closeChange_29 (by decide) (fun c7 => ?_) (fun c7 => ?_)
        · have hV := jT1 hV c7
          refine lv_iconst (v := 0) hx hb dX8_closeChange_36 (by decide) ?_
          exact B_X8_closeChange_37 C hA ks va hZ hno hl0 N B r   M v1 (0 : Int32) _ _ _ hP hD hS (lv_sub hl [0, 1] rfl) hV
        · have hV := jF1 hV c7
          refine lv_iconst (v := 1) hx hb dX8_closeChange_32 (by decide) ?_
          refine lv_goto (tgt := 37) hx hb dX8_closeChange_33 (by decide) ?_
          exact B_X8_closeChange_37 C hA ks va hZ hno hl0 N B r   M v1 (1 : Int32) _ _ _ hP hD hS (lv_sub hl [0, 1] rfl) hV
      · have hP : va_P D vwCl (wTS B G M) H := hP.kept (fun k q hq => hkp q.1 (hP k q hq).lt (fun h => h.elim (fun ⟨_, _, h⟩ => by simp at h) (fun h => Nat.lt_irrefl _ (Nat.lt_of_lt_of_le (hP k q hq).lt h))))
        have hV := jF1 hV hk
        cases hV
        exact xOut C hno hk hce hcv hcl (by decide) (by decide) hP hS
    · have hV := jF1 hV c10
      refine lv_iconst (v := 1) hx hb dX8_closeChange_18 (by decide) ?_
      refine lv_goto (tgt := 23) hx hb dX8_closeChange_19 (by decide) ?_
      refine jSx C dX8_closeChange_23 (kx_X8_checkIndex l hl0 D G ks va (1 : Int32)) jy_X8_checkIndex jq_11_19 jq_11_20 ⟨Nat.le_of_ble_eq_true rfl, Nat.le_of_ble_eq_true rfl⟩ ⟨Nat.le_of_ble_eq_true rfl, Nat.le_of_ble_eq_true rfl⟩ hZ jE (jDnd.mpr ⟨List.nodup_nil, fun q h => nomatch h⟩) hA hS hl (rest := []) rfl (Nat.le_of_ble_eq_true rfl) (fun H locs hQ hz hkp hS => ⟨fun hk => ?_, fun hk ce q hce hcv hcl => ?_⟩)
      · have hP : va_P D vwCl (wTS B G M) H := hP.kept (fun k q hq => hkp q.1 (hP k q hq).lt (fun h => h.elim (fun ⟨_, _, h⟩ => by simp at h) (fun h => Nat.lt_irrefl _ (Nat.lt_of_lt_of_le (hP k q hq).lt h))))
        have hV := jT1 hV hk
        refine W.eq (g2 := F0 m 26 ls []) rfl ?_
        refine lv_iload_n hx hb dX8_closeChange_26 rfl (lv_at hl 1 rfl) ?_
        refine lv_bipush (v := -2) hx hb dX8_closeChange_27 (by decide) ?_
        refine lv_icmp_eq (tgt := 36) hx hb dX8_closeChange_29 (by decide) (fun c9 => ?_) (fun c9 => ?_)
        · have hV := jT1 hV c9
          refine lv_iconst (v := 0) hx hb dX8_closeChange_36 (by decide) ?_
          exact B_X8_closeChange_37 C hA ks va hZ hno hl0 N B r   M v1 (0 : Int32) _ _ _ hP hD hS (lv_sub hl [0, 1] rfl) hV
        · have hV := jF1 hV c9
          refine lv_iconst (v := 1) hx hb dX8_closeChange_32 (by decide) ?_
          refine lv_goto (tgt := 37) hx hb dX8_closeChange_33 (by decide) ?_
          exact B_X8_closeChange_37 C hA ks va hZ hno hl0 N B r   M v1 (1 : Int32) _ _ _ hP hD hS (lv_sub hl [0, 1] rfl) hV
      · have hP : va_P D vwCl (wTS B G M) H := hP.kept (fun k q hq => hkp q.1 (hP k q hq).lt (fun h => h.elim (fun ⟨_, _, h⟩ => by simp at h) (fun h => Nat.lt_irrefl _ (Nat.lt_of_lt_of_le (hP k q hq).lt h))))
        have hV := jF1 hV hk
        cases hV
        exact xOut C hno hk hce hcv hcl (by decide) (by decide) hP hS
  · have hV := jF1 hV c14
    refine lv_aload_n hx hb dX8_closeChange_4 rfl (lv_at hl 0 rfl) ?_
    refine va_get (D := D) (ci := 10) (v := .ref (B 9 1)) (C := RX8) (T := TX8) (N := 8) hx hb hts ju_X8 hown hK hP 0 rfl rfl 2 (by decide) (hts _ jq_2_0) (fun _ h9 => h9) rfl dX8_closeChange_5 ?_
    refine jVmV C dX8_closeChange_8 (kt_X0_close l D G B  M ) jy_X0_close jq_11_11 jq_11_12 jq_11_13 ⟨rfl, rfl, Nat.le_of_ble_eq_true rfl, Nat.le_of_ble_eq_true rfl⟩ ⟨Nat.le_of_ble_eq_true rfl, Nat.le_of_ble_eq_true rfl⟩ hP hD hA hS (ci := 2) (iw := 1) rfl rfl rfl hl (rest := []) rfl (Nat.le_of_ble_eq_true rfl) (fun H locs hQ hz hkp hS => ?_)
    obtain ⟨M12, e13, hV⟩ := jLet hV
    have hP : va_P D vwCl (wTS B G M12) H := by rw [e13]; exact jHist hP hD hkp hQ
    have hD : va_D A (wTS B G M12) := jD (w := (wTS B G M)) (dTS _ _) hD
    refine lv_iload_n hx hb dX8_closeChange_11 rfl (lv_at hl 1 rfl) ?_
    cases hV
    exact xRet C rfl dX8_closeChange_12 rfl rfl rfl (by decide) (by decide) hP hS
theorem jy_X8_addProduction : jY yX8_addProduction cX8_addProduction 5 (some .int) 4 := ⟨by decide +kernel, jq_8_13, jq_1_2⟩
def F_X8_addProduction (N : Nat)  (M : Nat → Nat → Nat → Int32) (v1 v2 v3 v4 : Int32) : Option (Int32 × Int32 × (Nat → Nat → Nat → Int32)) := (jlet (hOpen M) (fun M2 => ((F_X6_makeProduction N (M2 0) v1 v2 v3 v4).bind (fun r3 => (jlet (u1 M2 0 r3.2) (fun M4 => ((F_X8_closeChange N M4 r3.1).bind (fun r5 => (if r5.1 = 0 then (some ((0 : Int32), r5.2.1, r5.2.2)) else (some (r5.1, (0 : Int32), r5.2.2)))))))))))
set_option maxHeartbeats 4000000 in
set_option maxRecDepth 100000 in
theorem k_X8_addProduction (l : Launch) (hl0 : l.stackTraces = false) (D : va_G) (G : Nat → ClassId) (B : Nat → Nat → Nat) (ks va : Nat → Nat) (N : Nat) (M : Nat → Nat → Nat → Int32) (v1 v2 v3 v4 : Int32) (r : (Int32 × Int32 × (Nat → Nat → Nat → Int32))) (hV : F_X8_addProduction N  M v1 v2 v3 v4 = some r) : xM l yX8_addProduction (jws yX8_addProduction cX8_addProduction 5 (some .int)) ({ frames := 9, cells := 3, slots := 18, locals := 211 } : Room) [.ref (B 9 0), .int v1, .int v2, .int v3, .int v4] D G ks va (wTS B G M) (wTS B G r.2.2) r.1 (some (.int r.2.1)) := by
  refine xM_of (by decide +kernel) (Nat.le_of_ble_eq_true rfl) (fun p e s m args below meth c ls A C hno hP hD hA hZ hl => ?_)
  have C : Cx p s m args meth c cX8_addProduction 5 RX8 (some .int) D G := C
  have hS : va_S A s.heap s.heap [] := va_S.rf
  obtain ⟨hx, hb, hr, hml, hts, hown, hlocks, hK0⟩ := id C
  have hK := hK0.1
  have hl : lv_has ls 5 [(0, .ref (B 9 0)), (1, .int v1), (2, .int v2), (3, .int v3), (4, .int v4)] := hl
  rw [F_X8_addProduction] at hV
  refine lv_aload_n hx hb dX8_addProduction_0 rfl (lv_at hl 0 rfl) ?_
  refine va_get (D := D) (ci := 10) (v := .ref (B 9 1)) (C := RX8) (T := TX8) (N := 8) hx hb hts ju_X8 hown hK hP 0 rfl rfl 2 (by decide) (hts _ jq_2_0) (fun _ h9 => h9) rfl dX8_addProduction_1 ?_
  refine lv_aload_n hx hb dX8_addProduction_4 rfl (lv_at hl 0 rfl) ?_
  refine va_get (D := D) (ci := 10) (v := .ref (B 0 0)) (C := RX8) (T := TX8) (N := 8) hx hb hts ju_X8 hown hK hP 0 rfl rfl 0 (by decide) (hts _ jq_1_19) (fun _ h9 => h9) rfl dX8_addProduction_5 ?_
  refine jVmV C dX8_addProduction_8 (kt_X0_open l D G B  M ) jy_X0_open jq_8_14 jq_8_15 jq_8_16 ⟨rfl, rfl, Nat.le_of_ble_eq_true rfl, Nat.le_of_ble_eq_true rfl⟩ ⟨Nat.le_of_ble_eq_true rfl, Nat.le_of_ble_eq_true rfl⟩ hP hD hA hS (ci := 2) (iw := 1) rfl rfl rfl hl (rest := []) rfl (Nat.le_of_ble_eq_true rfl) (fun H locs hQ hz hkp hS => ?_)
  obtain ⟨M2, e7, hV⟩ := jLet hV
  have hP : va_P D vwCl (wTS B G M2) H := by rw [e7]; exact jHist hP hD hkp hQ
  have hD : va_D A (wTS B G M2) := jD (w := (wTS B G M)) (dTS _ _) hD
  refine lv_aload_n hx hb dX8_addProduction_11 rfl (lv_at hl 0 rfl) ?_
  refine lv_aload_n hx hb dX8_addProduction_12 rfl (lv_at hl 0 rfl) ?_
  refine va_get (D := D) (ci := 10) (v := .ref (B 0 0)) (C := RX8) (T := TX8) (N := 8) hx hb hts ju_X8 hown hK hP 0 rfl rfl 0 (by decide) (hts _ jq_1_19) (fun _ h9 => h9) rfl dX8_addProduction_13 ?_
  refine lv_iload_n hx hb dX8_addProduction_16 rfl (lv_at hl 1 rfl) ?_
  refine lv_iload_n hx hb dX8_addProduction_17 rfl (lv_at hl 2 rfl) ?_
  refine lv_iload_n hx hb dX8_addProduction_18 rfl (lv_at hl 3 rfl) ?_
  refine lv_iload hx hb dX8_addProduction_19 (lv_at hl 4 rfl) ?_
  obtain ⟨r3, hr3, hV⟩ := jBind hV
  refine jVmI C dX8_addProduction_21 (k_X6_makeProduction l D G (B 0) N (M2 0) v1 v2 v3 v4 r3 hr3) jy_X6_makeProduction jq_10_16 jq_10_17 jq_10_18 ⟨rfl, rfl, Nat.le_of_ble_eq_true rfl, Nat.le_of_ble_eq_true rfl⟩ ⟨Nat.le_of_ble_eq_true rfl, Nat.le_of_ble_eq_true rfl⟩ (sTS_0 hP) (dTS_0 hD) hA hS (ci := 8) (iw := 0) rfl rfl rfl hl (rest := [.ref (B 9 0)]) rfl (Nat.le_of_ble_eq_true rfl) (fun H locs hQ hz hkp hS => ?_)
  obtain ⟨M4, e6, hV⟩ := jLet hV
  have hP : va_P D vwCl (wTS B G M4) H := by rw [e6]; exact jTS_0 hP hD hkp hQ
  have hD : va_D A (wTS B G M4) := jD (w := (wTS B G M2)) (dTS _ _) hD
  obtain ⟨r5, hr5, hV⟩ := jBind hV
  refine jVx C dX8_addProduction_24 (k_X8_closeChange l hl0 D G B ks va N M4 r3.1 r5 hr5) jy_X8_closeChange jq_11_3 jq_11_4 jq_11_5 ⟨Nat.le_of_ble_eq_true rfl, Nat.le_of_ble_eq_true rfl⟩ ⟨Nat.le_of_ble_eq_true rfl, Nat.le_of_ble_eq_true rfl⟩ hZ hP hD hA hS (ci := 10) (iw := 0) rfl rfl rfl hl (rest := []) rfl (Nat.le_of_ble_eq_true rfl) (fun H locs hQ hz hkp hS => ⟨fun hk => ?_, fun hk ce q hce hcv hcl => ?_⟩)
  · have hP : va_P D vwCl (wTS B G r5.2.2) H := hQ
    have hD : va_D A (wTS B G r5.2.2) := jD (w := (wTS B G M4)) (dTS _ _) hD
    have hV := jT1 hV hk
    refine W.eq (g2 := F0 m 27 ls [.int r5.2.1]) rfl ?_
    cases hV
    exact xRet C rfl dX8_addProduction_27 rfl rfl rfl (by decide) (by decide) hP hS
  · have hP : va_P D vwCl (wTS B G r5.2.2) H := hQ
    have hD : va_D A (wTS B G r5.2.2) := jD (w := (wTS B G M4)) (dTS _ _) hD
    have hV := jF1 hV hk
    cases hV
    exact xOut C hno hk hce hcv hcl (by decide) (by decide) hP hS
theorem jy_X8_production : jY yX8_production cX8_production 5 (some .int) 2 := ⟨by decide +kernel, jq_20_4, jq_1_2⟩
def F_X8_production (N : Nat)  (M : Nat → Nat → Nat → Int32) (v1 v2 : Int32) : Option (Int32 × Int32 × (Nat → Nat → Nat → Int32)) := ((F_X3_has N (M 0) v1).bind (fun r1 => (if (ckIndex r1) = 0 then (if v2 = 0 then (some ((0 : Int32), (rg 8 (M 0 2) v1), M)) else (if v2 = 1 then (some ((0 : Int32), (rg 8 (M 0 3) v1), M)) else (if v2 = 2 then (some ((0 : Int32), (rg 8 (M 0 4) v1), M)) else (if v2 = 3 then (some ((0 : Int32), (rg 8 (M 0 5) v1), M)) else (if v2 = 4 then (some ((0 : Int32), (bcnt (rg 8 (M 0 6) v1)), M)) else (if v2 = 5 then ((F_X8_firstDate N  (rg 8 (M 0 6) v1)).bind (fun r8 => (some ((0 : Int32), r8, M)))) else (if v2 = 6 then ((F_X8_lastDate N  (rg 8 (M 0 6) v1)).bind (fun r7 => (some ((0 : Int32), r7, M)))) else (if v2 = 7 then ((F_X6_takingsOf N (M 0) v1).bind (fun r6 => (some ((0 : Int32), r6, M)))) else (some ((2 : Int32), (0 : Int32), M)))))))))) else (some ((ckIndex r1), (0 : Int32), M)))))
set_option maxHeartbeats 4000000 in
set_option maxRecDepth 100000 in
theorem k_X8_production (l : Launch) (hl0 : l.stackTraces = false) (D : va_G) (G : Nat → ClassId) (B : Nat → Nat → Nat) (ks va : Nat → Nat) (N : Nat) (M : Nat → Nat → Nat → Int32) (v1 v2 : Int32) (r : (Int32 × Int32 × (Nat → Nat → Nat → Int32))) (hV : F_X8_production N  M v1 v2 = some r) : xM l yX8_production (jws yX8_production cX8_production 5 (some .int)) ({ frames := 8, cells := 2, slots := 12, locals := 120 } : Room) [.ref (B 9 0), .int v1, .int v2] D G ks va (wTS B G M) (wTS B G r.2.2) r.1 (some (.int r.2.1)) := by
  refine xM_of (by decide +kernel) (Nat.le_of_ble_eq_true rfl) (fun p e s m args below meth c ls A C hno hP hD hA hZ hl => ?_)
  have C : Cx p s m args meth c cX8_production 5 RX8 (some .int) D G := C
  have hS : va_S A s.heap s.heap [] := va_S.rf
  obtain ⟨hx, hb, hr, hml, hts, hown, hlocks, hK0⟩ := id C
  have hK := hK0.1
  have hl : lv_has ls 5 [(0, .ref (B 9 0)), (1, .int v1), (2, .int v2)] := hl
  rw [F_X8_production] at hV
  refine lv_aload_n hx hb dX8_production_0 rfl (lv_at hl 0 rfl) ?_
  refine va_get (D := D) (ci := 10) (v := .ref (B 0 0)) (C := RX8) (T := TX8) (N := 8) hx hb hts ju_X8 hown hK hP 0 rfl rfl 0 (by decide) (hts _ jq_1_19) (fun _ h9 => h9) rfl dX8_production_1 ?_
  refine va_getN (D := D) (ci := 8) (v := .ref (B 0 36)) (C := RX6) (T := TX6) (N := 7) (host := "TheatreSeasons") hx hb hts ju_X6 hown hK (sTS_0 hP) 0 rfl rfl 3 (by decide) (va_Nw.use rfl (hK0.2 _ jn_32)) (fun _ h9 => h9) rfl dX8_production_4 ?_
  refine lv_iload_n hx hb dX8_production_7 rfl (lv_at hl 1 rfl) ?_
  obtain ⟨r1, hr1, hV⟩ := jBind hV
  refine jVpI C dX8_production_8 (k_X3_has l D G (B 0) N (M 0) v1 r1 hr1) jy_X3_has jq_20_5 jq_12_21 jq_12_22 ⟨rfl, rfl, Nat.le_of_ble_eq_true rfl, Nat.le_of_ble_eq_true rfl⟩ ⟨Nat.le_of_ble_eq_true rfl, Nat.le_of_ble_eq_true rfl⟩ (sX6_X3 (sTS_0 hP))  (ci := 5) (iw := 0) rfl rfl rfl hl (rest := []) rfl (Nat.le_of_ble_eq_true rfl) ?_
  refine jSx C dX8_production_11 (kx_X8_checkIndex l hl0 D G ks va r1) jy_X8_checkIndex jq_11_19 jq_11_20 ⟨Nat.le_of_ble_eq_true rfl, Nat.le_of_ble_eq_true rfl⟩ ⟨Nat.le_of_ble_eq_true rfl, Nat.le_of_ble_eq_true rfl⟩ hZ jE (jDnd.mpr ⟨List.nodup_nil, fun q h => nomatch h⟩) hA hS hl (rest := []) rfl (Nat.le_of_ble_eq_true rfl) (fun H locs hQ hz hkp hS => ⟨fun hk => ?_, fun hk ce q hce hcv hcl => ?_⟩)
  · have hP : va_P D vwCl (wTS B G M) H := hP.kept (fun k q hq => hkp q.1 (hP k q hq).lt (fun h => h.elim (fun ⟨_, _, h⟩ => by simp at h) (fun h => Nat.lt_irrefl _ (Nat.lt_of_lt_of_le (hP k q hq).lt h))))
    have hV := jT1 hV hk
    refine W.eq (g2 := F0 m 14 ls []) rfl ?_
    refine lv_aload_n hx hb dX8_production_14 rfl (lv_at hl 0 rfl) ?_
    refine va_get (D := D) (ci := 10) (v := .ref (B 0 0)) (C := RX8) (T := TX8) (N := 8) hx hb hts ju_X8 hown hK hP 0 rfl rfl 0 (by decide) (hts _ jq_1_19) (fun _ h9 => h9) rfl dX8_production_15 ?_
    refine va_getN (D := D) (ci := 8) (v := .ref (B 0 36)) (C := RX6) (T := TX6) (N := 7) (host := "TheatreSeasons") hx hb hts ju_X6 hown hK (sTS_0 hP) 0 rfl rfl 3 (by decide) (va_Nw.use rfl (hK0.2 _ jn_32)) (fun _ h9 => h9) rfl dX8_production_18 ?_
    refine lv_astore_n (lv' := [(3, .ref (B 0 36)), (0, .ref (B 9 0)), (1, .int v1), (2, .int v2)]) hx hb dX8_production_21 rfl hl (by decide) rfl (fun ls hl => ?_)
    refine lv_aload_n hx hb dX8_production_22 rfl (lv_at hl 0 rfl) ?_
    refine va_getN (D := D) (ci := 5) (v := .ref (B 0 12)) (C := RX3) (T := TX3) (N := 6) (host := "TheatreSeasons") hx hb hts ju_X3 hown hK (sX6_X3 (sTS_0 hP)) 0 rfl rfl 5 (by decide) (va_Nw.use rfl (hK0.2 _ jn_7)) (fun _ h9 => h9) rfl dX8_production_23 ?_
    refine lv_iload_n hx hb dX8_production_26 rfl (lv_at hl 2 rfl) ?_
    refine jVpI C dX8_production_27 (kt_X5_get l D G (B 0 12) (B 0 13) 8 (Nat.le_of_ble_eq_true rfl) (M 0 6) v1) jy_X5_get jq_7_5 jq_6_13 jq_6_14 ⟨rfl, rfl, Nat.le_of_ble_eq_true rfl, Nat.le_of_ble_eq_true rfl⟩ ⟨Nat.le_of_ble_eq_true rfl, Nat.le_of_ble_eq_true rfl⟩ (sX3_6 (sX6_X3 (sTS_0 hP)))  (ci := 7) (iw := 0) rfl rfl rfl hl (rest := []) rfl (Nat.le_of_ble_eq_true rfl) ?_
    refine lv_istore (lv' := [(4, .int (rg 8 (M 0 6) v1)), (3, .ref (B 0 36)), (0, .ref (B 9 0)), (1, .int v1), (2, .int v2)]) hx hb dX8_production_30 hl (by decide) rfl (fun ls hl => ?_)
    refine lv_iload_n hx hb dX8_production_32 rfl (lv_at hl 4 rfl) ?_
    by_cases c4_0 : v2 = 0
    · have hV := jT1 hV c4_0
      refine lv_tableIn (tgt := 80) hx hb dX8_production_33 (by rw [c4_0]; decide) (by rw [c4_0]; decide) (by rw [c4_0]; rfl) (by decide) ?_
      refine lv_aload_n hx hb dX8_production_80 rfl (lv_at hl 1 rfl) ?_
      refine va_getN (D := D) (ci := 5) (v := .ref (B 0 4)) (C := RX3) (T := TX3) (N := 6) (host := "TheatreSeasons") hx hb hts ju_X3 hown hK (sX6_X3 (sTS_0 hP)) 0 rfl rfl 1 (by decide) (va_Nw.use rfl (hK0.2 _ jn_2)) (fun _ h9 => h9) rfl dX8_production_81 ?_
      refine lv_iload_n hx hb dX8_production_84 rfl (lv_at hl 3 rfl) ?_
      refine jVpI C dX8_production_85 (kt_X5_get l D G (B 0 4) (B 0 5) 8 (Nat.le_of_ble_eq_true rfl) (M 0 2) v1) jy_X5_get jq_7_5 jq_6_13 jq_6_14 ⟨rfl, rfl, Nat.le_of_ble_eq_true rfl, Nat.le_of_ble_eq_true rfl⟩ ⟨Nat.le_of_ble_eq_true rfl, Nat.le_of_ble_eq_true rfl⟩ (sX3_2 (sX6_X3 (sTS_0 hP)))  (ci := 7) (iw := 0) rfl rfl rfl hl (rest := []) rfl (Nat.le_of_ble_eq_true rfl) ?_
      cases hV
      exact xRet C rfl dX8_production_88 rfl rfl rfl (by decide) (by decide) hP hS
    · have hV := jF1 hV c4_0
      by_cases c4_1 : v2 = 1
      · have hV := jT1 hV c4_1
        refine lv_tableIn (tgt := 89) hx hb dX8_production_33 (by rw [c4_1]; decide) (by rw [c4_1]; decide) (by rw [c4_1]; rfl) (by decide) ?_
        refine lv_aload_n hx hb dX8_production_89 rfl (lv_at hl 1 rfl) ?_
        refine va_getN (D := D) (ci := 5) (v := .ref (B 0 6)) (C := RX3) (T := TX3) (N := 6) (host := "TheatreSeasons") hx hb hts ju_X3 hown hK (sX6_X3 (sTS_0 hP)) 0 rfl rfl 2 (by decide) (va_Nw.use rfl (hK0.2 _ jn_3)) (fun _ h9 => h9) rfl dX8_production_90 ?_
        refine lv_iload_n hx hb dX8_production_93 rfl (lv_at hl 3 rfl) ?_
        refine jVpI C dX8_production_94 (kt_X5_get l D G (B 0 6) (B 0 7) 8 (Nat.le_of_ble_eq_true rfl) (M 0 3) v1) jy_X5_get jq_7_5 jq_6_13 jq_6_14 ⟨rfl, rfl, Nat.le_of_ble_eq_true rfl, Nat.le_of_ble_eq_true rfl⟩ ⟨Nat.le_of_ble_eq_true rfl, Nat.le_of_ble_eq_true rfl⟩ (sX3_3 (sX6_X3 (sTS_0 hP)))  (ci := 7) (iw := 0) rfl rfl rfl hl (rest := []) rfl (Nat.le_of_ble_eq_true rfl) ?_
        cases hV
        exact xRet C rfl dX8_production_97 rfl rfl rfl (by decide) (by decide) hP hS
      · have hV := jF1 hV c4_1
        by_cases c4_2 : v2 = 2
        · have hV := jT1 hV c4_2
          refine lv_tableIn (tgt := 98) hx hb dX8_production_33 (by rw [c4_2]; decide) (by rw [c4_2]; decide) (by rw [c4_2]; rfl) (by decide) ?_
          refine lv_aload_n hx hb dX8_production_98 rfl (lv_at hl 1 rfl) ?_
          refine va_getN (D := D) (ci := 5) (v := .ref (B 0 8)) (C := RX3) (T := TX3) (N := 6) (host := "TheatreSeasons") hx hb hts ju_X3 hown hK (sX6_X3 (sTS_0 hP)) 0 rfl rfl 3 (by decide) (va_Nw.use rfl (hK0.2 _ jn_4)) (fun _ h9 => h9) rfl dX8_production_99 ?_
          refine lv_iload_n hx hb dX8_production_102 rfl (lv_at hl 3 rfl) ?_
          refine jVpI C dX8_production_103 (kt_X5_get l D G (B 0 8) (B 0 9) 8 (Nat.le_of_ble_eq_true rfl) (M 0 4) v1) jy_X5_get jq_7_5 jq_6_13 jq_6_14 ⟨rfl, rfl, Nat.le_of_ble_eq_true rfl, Nat.le_of_ble_eq_true rfl⟩ ⟨Nat.le_of_ble_eq_true rfl, Nat.le_of_ble_eq_true rfl⟩ (sX3_4 (sX6_X3 (sTS_0 hP)))  (ci := 7) (iw := 0) rfl rfl rfl hl (rest := []) rfl (Nat.le_of_ble_eq_true rfl) ?_
          cases hV
          exact xRet C rfl dX8_production_106 rfl rfl rfl (by decide) (by decide) hP hS
        · have hV := jF1 hV c4_2
          by_cases c4_3 : v2 = 3
          · have hV := jT1 hV c4_3
            refine lv_tableIn (tgt := 107) hx hb dX8_production_33 (by rw [c4_3]; decide) (by rw [c4_3]; decide) (by rw [c4_3]; rfl) (by decide) ?_
            refine lv_aload_n hx hb dX8_production_107 rfl (lv_at hl 1 rfl) ?_
            refine va_getN (D := D) (ci := 5) (v := .ref (B 0 10)) (C := RX3) (T := TX3) (N := 6) (host := "TheatreSeasons") hx hb hts ju_X3 hown hK (sX6_X3 (sTS_0 hP)) 0 rfl rfl 4 (by decide) (va_Nw.use rfl (hK0.2 _ jn_6)) (fun _ h9 => h9) rfl dX8_production_108 ?_
            refine lv_iload_n hx hb dX8_production_111 rfl (lv_at hl 3 rfl) ?_
            refine jVpI C dX8_production_112 (kt_X5_get l D G (B 0 10) (B 0 11) 8 (Nat.le_of_ble_eq_true rfl) (M 0 5) v1) jy_X5_get jq_7_5 jq_6_13 jq_6_14 ⟨rfl, rfl, Nat.le_of_ble_eq_true rfl, Nat.le_of_ble_eq_true rfl⟩ ⟨Nat.le_of_ble_eq_true rfl, Nat.le_of_ble_eq_true rfl⟩ (sX3_5 (sX6_X3 (sTS_0 hP)))  (ci := 7) (iw := 0) rfl rfl rfl hl (rest := []) rfl (Nat.le_of_ble_eq_true rfl) ?_
            cases hV
            exact xRet C rfl dX8_production_115 rfl rfl rfl (by decide) (by decide) hP hS
          · have hV := jF1 hV c4_3
            by_cases c4_4 : v2 = 4
            · have hV := jT1 hV c4_4
              refine lv_tableIn (tgt := 116) hx hb dX8_production_33 (by rw [c4_4]; decide) (by rw [c4_4]; decide) (by rw [c4_4]; rfl) (by decide) ?_
              refine lv_iload hx hb dX8_production_116 (lv_at hl 0 rfl) ?_
              refine jSpI C dX8_production_118 (kt_bitCount l D G (rg 8 (M 0 6) v1)) jy_J6_bitCount_0f7a4 jq_19_6 jq_17_0 ⟨rfl, rfl, Nat.le_of_ble_eq_true rfl, Nat.le_of_ble_eq_true rfl⟩ ⟨Nat.le_of_ble_eq_true rfl, Nat.le_of_ble_eq_true rfl⟩ jE hl (rest := []) rfl (Nat.le_of_ble_eq_true rfl) ?_
              cases hV
              exact xRet C rfl dX8_production_121 rfl rfl rfl (by decide) (by decide) hP hS
            · have hV := jF1 hV c4_4
              by_cases c4_5 : v2 = 5
              · have hV := jT1 hV c4_5
                refine lv_tableIn (tgt := 122) hx hb dX8_production_33 (by rw [c4_5]; decide) (by rw [c4_5]; decide) (by rw [c4_5]; rfl) (by decide) ?_
                refine lv_iload hx hb dX8_production_122 (lv_at hl 0 rfl) ?_
                obtain ⟨r8, hr8, hV⟩ := jBind hV
                refine jSpI C dX8_production_124 (k_X8_firstDate l D G  N  (rg 8 (M 0 6) v1) r8 hr8) jy_X8_firstDate jq_20_6 jq_20_7 ⟨rfl, rfl, Nat.le_of_ble_eq_true rfl, Nat.le_of_ble_eq_true rfl⟩ ⟨Nat.le_of_ble_eq_true rfl, Nat.le_of_ble_eq_true rfl⟩ jE  hl (rest := []) rfl (Nat.le_of_ble_eq_true rfl) ?_
                cases hV
                exact xRet C rfl dX8_production_127 rfl rfl rfl (by decide) (by decide) hP hS
              · have hV := jF1 hV c4_5
                by_cases c4_6 : v2 = 6
                · have hV := jT1 hV c4_6
                  refine lv_tableIn (tgt := 128) hx hb dX8_production_33 (by rw [c4_6]; decide) (by rw [c4_6]; decide) (by rw [c4_6]; rfl) (by decide) ?_
                  refine lv_iload hx hb dX8_production_128 (lv_at hl 0 rfl) ?_
                  obtain ⟨r7, hr7, hV⟩ := jBind hV
                  refine jSpI C dX8_production_130 (k_X8_lastDate l D G  N  (rg 8 (M 0 6) v1) r7 hr7) jy_X8_lastDate jq_20_10 jq_20_11 ⟨rfl, rfl, Nat.le_of_ble_eq_true rfl, Nat.le_of_ble_eq_true rfl⟩ ⟨Nat.le_of_ble_eq_true rfl, Nat.le_of_ble_eq_true rfl⟩ jE  hl (rest := []) rfl (Nat.le_of_ble_eq_true rfl) ?_
                  cases hV
                  exact xRet C rfl dX8_production_133 rfl rfl rfl (by decide) (by decide) hP hS
                · have hV := jF1 hV c4_6
                  by_cases c4_7 : v2 = 7
                  · have hV := jT1 hV c4_7
                    refine lv_tableIn (tgt := 134) hx hb dX8_production_33 (by rw [c4_7]; decide) (by rw [c4_7]; decide) (by rw [c4_7]; rfl) (by decide) ?_
                    refine lv_aload_n hx hb dX8_production_134 rfl (lv_at hl 2 rfl) ?_
                    refine va_get (D := D) (ci := 10) (v := .ref (B 0 0)) (C := RX8) (T := TX8) (N := 8) hx hb hts ju_X8 hown hK hP 0 rfl rfl 0 (by decide) (hts _ jq_1_19) (fun _ h9 => h9) rfl dX8_production_135 ?_
                    refine lv_iload_n hx hb dX8_production_138 rfl (lv_at hl 3 rfl) ?_
                    obtain ⟨r6, hr6, hV⟩ := jBind hV
                    refine jVpI C dX8_production_139 (k_X6_takingsOf l D G (B 0) N (M 0) v1 r6 hr6) jy_X6_takingsOf jq_20_13 jq_7_2 jq_7_3 ⟨rfl, rfl, Nat.le_of_ble_eq_true rfl, Nat.le_of_ble_eq_true rfl⟩ ⟨Nat.le_of_ble_eq_true rfl, Nat.le_of_ble_eq_true rfl⟩ (sTS_0 hP)  (ci := 8) (iw := 0) rfl rfl rfl hl (rest := []) rfl (Nat.le_of_ble_eq_true rfl) ?_
                    cases hV
                    exact xRet C rfl dX8_production_142 rfl rfl rfl (by decide) (by decide) hP hS
                  · have hV := jF1 hV c4_7
                    refine jTabDef (tgt := 143) hx hb dX8_production_33 (fun k h1 h2 h3 => ?_) (by decide) ?_
                    · rcases (show k = 0 ∨ k = 1 ∨ k = 2 ∨ k = 3 ∨ k = 4 ∨ k = 5 ∨ k = 6 ∨ k = 7 by omega) with rfl | rfl | rfl | rfl | rfl | rfl | rfl | rfl <;> first | rfl | exact absurd (Int32.toInt_inj.mp (h3.trans (by decide))) c4_0 | exact absurd (Int32.toInt_inj.mp (h3.trans (by decide))) c4_1 | exact absurd (Int32.toInt_inj.mp (h3.trans (by decide))) c4_2 | exact absurd (Int32.toInt_inj.mp (h3.trans (by decide))) c4_3 | exact absurd (Int32.toInt_inj.mp (h3.trans (by decide))) c4_4 | exact absurd (Int32.toInt_inj.mp (h3.trans (by decide))) c4_5 | exact absurd (Int32.toInt_inj.mp (h3.trans (by decide))) c4_6 | exact absurd (Int32.toInt_inj.mp (h3.trans (by decide))) c4_7
                    · obtain ⟨sa5, hsa5⟩ := hZ.2.2.2.2.2.2 _ jms_116
                      cases hV
                      exact xThrow C hno hl0 (by decide) (by decide) jq_6_2 jq_6_3 hsa5 (xat_118 C) xgd_118_114 hZ hS hA hP hl dX8_production_143 dX8_production_146 dX8_production_147 dX8_production_149 dX8_production_152 (rest := []) (Nat.le_of_ble_eq_true rfl) (Nat.le_of_ble_eq_true rfl) (Nat.le_of_ble_eq_true rfl) (Nat.le_of_ble_eq_true rfl) (by decide) (by decide) (show (2 : Int32) ≠ 0 by decide) (show exN 2 = "java/lang/IllegalArgumentException" by decide)
  · have hP : va_P D vwCl (wTS B G M) H := hP.kept (fun k q hq => hkp q.1 (hP k q hq).lt (fun h => h.elim (fun ⟨_, _, h⟩ => by simp at h) (fun h => Nat.lt_irrefl _ (Nat.lt_of_lt_of_le (hP k q hq).lt h))))
    have hV := jF1 hV hk
    cases hV
    exact xOut C hno hk hce hcv hcl (by decide) (by decide) hP hS
theorem jy_X8_perform : jY yX8_perform cX8_perform 4 (some .int) 3 := ⟨by decide +kernel, jq_12_15, jq_1_2⟩
def F_X8_perform (N : Nat)  (M : Nat → Nat → Nat → Int32) (v1 v2 v3 : Int32) : Option (Int32 × Int32 × (Nat → Nat → Nat → Int32)) := (jlet (hOpen M) (fun M2 => ((F_X6_makePerformance N (M2 0) v1 v2 v3).bind (fun r3 => (jlet (u1 M2 0 r3.2) (fun M4 => ((F_X8_closeChange N M4 r3.1).bind (fun r5 => (if r5.1 = 0 then (some ((0 : Int32), r5.2.1, r5.2.2)) else (some (r5.1, (0 : Int32), r5.2.2)))))))))))
set_option maxHeartbeats 4000000 in
set_option maxRecDepth 100000 in
theorem k_X8_perform (l : Launch) (hl0 : l.stackTraces = false) (D : va_G) (G : Nat → ClassId) (B : Nat → Nat → Nat) (ks va : Nat → Nat) (N : Nat) (M : Nat → Nat → Nat → Int32) (v1 v2 v3 : Int32) (r : (Int32 × Int32 × (Nat → Nat → Nat → Int32))) (hV : F_X8_perform N  M v1 v2 v3 = some r) : xM l yX8_perform (jws yX8_perform cX8_perform 4 (some .int)) ({ frames := 9, cells := 3, slots := 18, locals := 211 } : Room) [.ref (B 9 0), .int v1, .int v2, .int v3] D G ks va (wTS B G M) (wTS B G r.2.2) r.1 (some (.int r.2.1)) := by
  refine xM_of (by decide +kernel) (Nat.le_of_ble_eq_true rfl) (fun p e s m args below meth c ls A C hno hP hD hA hZ hl => ?_)
  have C : Cx p s m args meth c cX8_perform 4 RX8 (some .int) D G := C
  have hS : va_S A s.heap s.heap [] := va_S.rf
  obtain ⟨hx, hb, hr, hml, hts, hown, hlocks, hK0⟩ := id C
  have hK := hK0.1
  have hl : lv_has ls 4 [(0, .ref (B 9 0)), (1, .int v1), (2, .int v2), (3, .int v3)] := hl
  rw [F_X8_perform] at hV
  refine lv_aload_n hx hb dX8_perform_0 rfl (lv_at hl 0 rfl) ?_
  refine va_get (D := D) (ci := 10) (v := .ref (B 9 1)) (C := RX8) (T := TX8) (N := 8) hx hb hts ju_X8 hown hK hP 0 rfl rfl 2 (by decide) (hts _ jq_2_0) (fun _ h9 => h9) rfl dX8_perform_1 ?_
  refine lv_aload_n hx hb dX8_perform_4 rfl (lv_at hl 0 rfl) ?_
  refine va_get (D := D) (ci := 10) (v := .ref (B 0 0)) (C := RX8) (T := TX8) (N := 8) hx hb hts ju_X8 hown hK hP 0 rfl rfl 0 (by decide) (hts _ jq_1_19) (fun _ h9 => h9) rfl dX8_perform_5 ?_
  refine jVmV C dX8_perform_8 (kt_X0_open l D G B  M ) jy_X0_open jq_8_14 jq_8_15 jq_8_16 ⟨rfl, rfl, Nat.le_of_ble_eq_true rfl, Nat.le_of_ble_eq_true rfl⟩ ⟨Nat.le_of_ble_eq_true rfl, Nat.le_of_ble_eq_true rfl⟩ hP hD hA hS (ci := 2) (iw := 1) rfl rfl rfl hl (rest := []) rfl (Nat.le_of_ble_eq_true rfl) (fun H locs hQ hz hkp hS => ?_)
  obtain ⟨M2, e7, hV⟩ := jLet hV
  have hP : va_P D vwCl (wTS B G M2) H := by rw [e7]; exact jHist hP hD hkp hQ
  have hD : va_D A (wTS B G M2) := jD (w := (wTS B G M)) (dTS _ _) hD
  refine lv_aload_n hx hb dX8_perform_11 rfl (lv_at hl 0 rfl) ?_
  refine lv_aload_n hx hb dX8_perform_12 rfl (lv_at hl 0 rfl) ?_
  refine va_get (D := D) (ci := 10) (v := .ref (B 0 0)) (C := RX8) (T := TX8) (N := 8) hx hb hts ju_X8 hown hK hP 0 rfl rfl 0 (by decide) (hts _ jq_1_19) (fun _ h9 => h9) rfl dX8_perform_13 ?_
  refine lv_iload_n hx hb dX8_perform_16 rfl (lv_at hl 1 rfl) ?_
  refine lv_iload_n hx hb dX8_perform_17 rfl (lv_at hl 2 rfl) ?_
  refine lv_iload_n hx hb dX8_perform_18 rfl (lv_at hl 3 rfl) ?_
  obtain ⟨r3, hr3, hV⟩ := jBind hV
  refine jVmI C dX8_perform_19 (k_X6_makePerformance l D G (B 0) N (M2 0) v1 v2 v3 r3 hr3) jy_X6_makePerformance jq_12_16 jq_12_17 jq_12_18 ⟨rfl, rfl, Nat.le_of_ble_eq_true rfl, Nat.le_of_ble_eq_true rfl⟩ ⟨Nat.le_of_ble_eq_true rfl, Nat.le_of_ble_eq_true rfl⟩ (sTS_0 hP) (dTS_0 hD) hA hS (ci := 8) (iw := 0) rfl rfl rfl hl (rest := [.ref (B 9 0)]) rfl (Nat.le_of_ble_eq_true rfl) (fun H locs hQ hz hkp hS => ?_)
  obtain ⟨M4, e6, hV⟩ := jLet hV
  have hP : va_P D vwCl (wTS B G M4) H := by rw [e6]; exact jTS_0 hP hD hkp hQ
  have hD : va_D A (wTS B G M4) := jD (w := (wTS B G M2)) (dTS _ _) hD
  obtain ⟨r5, hr5, hV⟩ := jBind hV
  refine jVx C dX8_perform_22 (k_X8_closeChange l hl0 D G B ks va N M4 r3.1 r5 hr5) jy_X8_closeChange jq_11_3 jq_11_4 jq_11_5 ⟨Nat.le_of_ble_eq_true rfl, Nat.le_of_ble_eq_true rfl⟩ ⟨Nat.le_of_ble_eq_true rfl, Nat.le_of_ble_eq_true rfl⟩ hZ hP hD hA hS (ci := 10) (iw := 0) rfl rfl rfl hl (rest := []) rfl (Nat.le_of_ble_eq_true rfl) (fun H locs hQ hz hkp hS => ⟨fun hk => ?_, fun hk ce q hce hcv hcl => ?_⟩)
  · have hP : va_P D vwCl (wTS B G r5.2.2) H := hQ
    have hD : va_D A (wTS B G r5.2.2) := jD (w := (wTS B G M4)) (dTS _ _) hD
    have hV := jT1 hV hk
    refine W.eq (g2 := F0 m 25 ls [.int r5.2.1]) rfl ?_
    cases hV
    exact xRet C rfl dX8_perform_25 rfl rfl rfl (by decide) (by decide) hP hS
  · have hP : va_P D vwCl (wTS B G r5.2.2) H := hQ
    have hD : va_D A (wTS B G r5.2.2) := jD (w := (wTS B G M4)) (dTS _ _) hD
    have hV := jF1 hV hk
    cases hV
    exact xOut C hno hk hce hcv hcl (by decide) (by decide) hP hS
theorem jy_X8_performance : jY yX8_performance cX8_performance 4 (some .int) 2 := ⟨by decide +kernel, jq_18_17, jq_1_2⟩
def F_X8_performance (N : Nat)  (M : Nat → Nat → Nat → Int32) (v1 v2 : Int32) : Option (Int32 × Int32 × (Nat → Nat → Nat → Int32)) := ((F_X2_has N (M 0) v1).bind (fun r1 => (if (ckIndex r1) = 0 then (if v2 = 0 then (some ((0 : Int32), (rg 24 (M 0 7) v1), M)) else (if v2 = 1 then (some ((0 : Int32), (rg 24 (M 0 8) v1), M)) else (if v2 = 2 then (some ((0 : Int32), (rg 24 (M 0 9) v1), M)) else (if v2 = 3 then ((F_X6_seatsAt N (M 0) v1 (0 : Int32)).bind (fun r9 => (some ((0 : Int32), r9, M)))) else (if v2 = 4 then ((F_X6_seatsAt N (M 0) v1 (1 : Int32)).bind (fun r8 => (some ((0 : Int32), r8, M)))) else (if v2 = 5 then ((F_X6_seatsAt N (M 0) v1 (2 : Int32)).bind (fun r7 => (some ((0 : Int32), r7, M)))) else (if v2 = 6 then ((F_X4_countFor N (M 0) v1).bind (fun r6 => (some ((0 : Int32), r6, M)))) else (if v2 = 7 then (some ((0 : Int32), (rg 24 (M 0 12) v1), M)) else (some ((2 : Int32), (0 : Int32), M)))))))))) else (some ((ckIndex r1), (0 : Int32), M)))))
set_option maxHeartbeats 4000000 in
set_option maxRecDepth 100000 in
theorem k_X8_performance (l : Launch) (hl0 : l.stackTraces = false) (D : va_G) (G : Nat → ClassId) (B : Nat → Nat → Nat) (ks va : Nat → Nat) (N : Nat) (M : Nat → Nat → Nat → Int32) (v1 v2 : Int32) (r : (Int32 × Int32 × (Nat → Nat → Nat → Int32))) (hV : F_X8_performance N  M v1 v2 = some r) : xM l yX8_performance (jws yX8_performance cX8_performance 4 (some .int)) ({ frames := 8, cells := 2, slots := 12, locals := 120 } : Room) [.ref (B 9 0), .int v1, .int v2] D G ks va (wTS B G M) (wTS B G r.2.2) r.1 (some (.int r.2.1)) := by
  refine xM_of (by decide +kernel) (Nat.le_of_ble_eq_true rfl) (fun p e s m args below meth c ls A C hno hP hD hA hZ hl => ?_)
  have C : Cx p s m args meth c cX8_performance 4 RX8 (some .int) D G := C
  have hS : va_S A s.heap s.heap [] := va_S.rf
  obtain ⟨hx, hb, hr, hml, hts, hown, hlocks, hK0⟩ := id C
  have hK := hK0.1
  have hl : lv_has ls 4 [(0, .ref (B 9 0)), (1, .int v1), (2, .int v2)] := hl
  rw [F_X8_performance] at hV
  refine lv_aload_n hx hb dX8_performance_0 rfl (lv_at hl 0 rfl) ?_
  refine va_get (D := D) (ci := 10) (v := .ref (B 0 0)) (C := RX8) (T := TX8) (N := 8) hx hb hts ju_X8 hown hK hP 0 rfl rfl 0 (by decide) (hts _ jq_1_19) (fun _ h9 => h9) rfl dX8_performance_1 ?_
  refine va_getN (D := D) (ci := 8) (v := .ref (B 0 37)) (C := RX6) (T := TX6) (N := 7) (host := "TheatreSeasons") hx hb hts ju_X6 hown hK (sTS_0 hP) 0 rfl rfl 4 (by decide) (va_Nw.use rfl (hK0.2 _ jn_33)) (fun _ h9 => h9) rfl dX8_performance_4 ?_
  refine lv_iload_n hx hb dX8_performance_7 rfl (lv_at hl 1 rfl) ?_
  obtain ⟨r1, hr1, hV⟩ := jBind hV
  refine jVpI C dX8_performance_8 (k_X2_has l D G (B 0) N (M 0) v1 r1 hr1) jy_X2_has jq_18_18 jq_13_20 jq_13_21 ⟨rfl, rfl, Nat.le_of_ble_eq_true rfl, Nat.le_of_ble_eq_true rfl⟩ ⟨Nat.le_of_ble_eq_true rfl, Nat.le_of_ble_eq_true rfl⟩ (sX6_X2 (sTS_0 hP))  (ci := 4) (iw := 0) rfl rfl rfl hl (rest := []) rfl (Nat.le_of_ble_eq_true rfl) ?_
  refine jSx C dX8_performance_11 (kx_X8_checkIndex l hl0 D G ks va r1) jy_X8_checkIndex jq_11_19 jq_11_20 ⟨Nat.le_of_ble_eq_true rfl, Nat.le_of_ble_eq_true rfl⟩ ⟨Nat.le_of_ble_eq_true rfl, Nat.le_of_ble_eq_true rfl⟩ hZ jE (jDnd.mpr ⟨List.nodup_nil, fun q h => nomatch h⟩) hA hS hl (rest := []) rfl (Nat.le_of_ble_eq_true rfl) (fun H locs hQ hz hkp hS => ⟨fun hk => ?_, fun hk ce q hce hcv hcl => ?_⟩)
  · have hP : va_P D vwCl (wTS B G M) H := hP.kept (fun k q hq => hkp q.1 (hP k q hq).lt (fun h => h.elim (fun ⟨_, _, h⟩ => by simp at h) (fun h => Nat.lt_irrefl _ (Nat.lt_of_lt_of_le (hP k q hq).lt h))))
    have hV := jT1 hV hk
    refine W.eq (g2 := F0 m 14 ls []) rfl ?_
    refine lv_aload_n hx hb dX8_performance_14 rfl (lv_at hl 0 rfl) ?_
    refine va_get (D := D) (ci := 10) (v := .ref (B 0 0)) (C := RX8) (T := TX8) (N := 8) hx hb hts ju_X8 hown hK hP 0 rfl rfl 0 (by decide) (hts _ jq_1_19) (fun _ h9 => h9) rfl dX8_performance_15 ?_
    refine va_getN (D := D) (ci := 8) (v := .ref (B 0 37)) (C := RX6) (T := TX6) (N := 7) (host := "TheatreSeasons") hx hb hts ju_X6 hown hK (sTS_0 hP) 0 rfl rfl 4 (by decide) (va_Nw.use rfl (hK0.2 _ jn_33)) (fun _ h9 => h9) rfl dX8_performance_18 ?_
    refine lv_astore_n (lv' := [(3, .ref (B 0 37)), (0, .ref (B 9 0)), (1, .int v1), (2, .int v2)]) hx hb dX8_performance_21 rfl hl (by decide) rfl (fun ls hl => ?_)
    refine lv_iload_n hx hb dX8_performance_22 rfl (lv_at hl 3 rfl) ?_
    by_cases c3_0 : v2 = 0
    · have hV := jT1 hV c3_0
      refine lv_tableIn (tgt := 68) hx hb dX8_performance_23 (by rw [c3_0]; decide) (by rw [c3_0]; decide) (by rw [c3_0]; rfl) (by decide) ?_
      refine lv_aload_n hx hb dX8_performance_68 rfl (lv_at hl 0 rfl) ?_
      refine va_getN (D := D) (ci := 4) (v := .ref (B 0 14)) (C := RX2) (T := TX2) (N := 7) (host := "TheatreSeasons") hx hb hts ju_X2 hown hK (sX6_X2 (sTS_0 hP)) 0 rfl rfl 1 (by decide) (va_Nw.use rfl (hK0.2 _ jn_11)) (fun _ h9 => h9) rfl dX8_performance_69 ?_
      refine lv_iload_n hx hb dX8_performance_72 rfl (lv_at hl 2 rfl) ?_
      refine jVpI C dX8_performance_73 (kt_X5_get l D G (B 0 14) (B 0 15) 24 (Nat.le_of_ble_eq_true rfl) (M 0 7) v1) jy_X5_get jq_7_5 jq_6_13 jq_6_14 ⟨rfl, rfl, Nat.le_of_ble_eq_true rfl, Nat.le_of_ble_eq_true rfl⟩ ⟨Nat.le_of_ble_eq_true rfl, Nat.le_of_ble_eq_true rfl⟩ (sX2_7 (sX6_X2 (sTS_0 hP)))  (ci := 7) (iw := 0) rfl rfl rfl hl (rest := []) rfl (Nat.le_of_ble_eq_true rfl) ?_
      cases hV
      exact xRet C rfl dX8_performance_76 rfl rfl rfl (by decide) (by decide) hP hS
    · have hV := jF1 hV c3_0
      by_cases c3_1 : v2 = 1
      · have hV := jT1 hV c3_1
        refine lv_tableIn (tgt := 77) hx hb dX8_performance_23 (by rw [c3_1]; decide) (by rw [c3_1]; decide) (by rw [c3_1]; rfl) (by decide) ?_
        refine lv_aload_n hx hb dX8_performance_77 rfl (lv_at hl 0 rfl) ?_
        refine va_getN (D := D) (ci := 4) (v := .ref (B 0 16)) (C := RX2) (T := TX2) (N := 7) (host := "TheatreSeasons") hx hb hts ju_X2 hown hK (sX6_X2 (sTS_0 hP)) 0 rfl rfl 2 (by decide) (va_Nw.use rfl (hK0.2 _ jn_13)) (fun _ h9 => h9) rfl dX8_performance_78 ?_
        refine lv_iload_n hx hb dX8_performance_81 rfl (lv_at hl 2 rfl) ?_
        refine jVpI C dX8_performance_82 (kt_X5_get l D G (B 0 16) (B 0 17) 24 (Nat.le_of_ble_eq_true rfl) (M 0 8) v1) jy_X5_get jq_7_5 jq_6_13 jq_6_14 ⟨rfl, rfl, Nat.le_of_ble_eq_true rfl, Nat.le_of_ble_eq_true rfl⟩ ⟨Nat.le_of_ble_eq_true rfl, Nat.le_of_ble_eq_true rfl⟩ (sX2_8 (sX6_X2 (sTS_0 hP)))  (ci := 7) (iw := 0) rfl rfl rfl hl (rest := []) rfl (Nat.le_of_ble_eq_true rfl) ?_
        cases hV
        exact xRet C rfl dX8_performance_85 rfl rfl rfl (by decide) (by decide) hP hS
      · have hV := jF1 hV c3_1
        by_cases c3_2 : v2 = 2
        · have hV := jT1 hV c3_2
          refine lv_tableIn (tgt := 86) hx hb dX8_performance_23 (by rw [c3_2]; decide) (by rw [c3_2]; decide) (by rw [c3_2]; rfl) (by decide) ?_
          refine lv_aload_n hx hb dX8_performance_86 rfl (lv_at hl 0 rfl) ?_
          refine va_getN (D := D) (ci := 4) (v := .ref (B 0 18)) (C := RX2) (T := TX2) (N := 7) (host := "TheatreSeasons") hx hb hts ju_X2 hown hK (sX6_X2 (sTS_0 hP)) 0 rfl rfl 3 (by decide) (va_Nw.use rfl (hK0.2 _ jn_16)) (fun _ h9 => h9) rfl dX8_performance_87 ?_
          refine lv_iload_n hx hb dX8_performance_90 rfl (lv_at hl 2 rfl) ?_
          refine jVpI C dX8_performance_91 (kt_X5_get l D G (B 0 18) (B 0 19) 24 (Nat.le_of_ble_eq_true rfl) (M 0 9) v1) jy_X5_get jq_7_5 jq_6_13 jq_6_14 ⟨rfl, rfl, Nat.le_of_ble_eq_true rfl, Nat.le_of_ble_eq_true rfl⟩ ⟨Nat.le_of_ble_eq_true rfl, Nat.le_of_ble_eq_true rfl⟩ (sX2_9 (sX6_X2 (sTS_0 hP)))  (ci := 7) (iw := 0) rfl rfl rfl hl (rest := []) rfl (Nat.le_of_ble_eq_true rfl) ?_
          cases hV
          exact xRet C rfl dX8_performance_94 rfl rfl rfl (by decide) (by decide) hP hS
        · have hV := jF1 hV c3_2
          by_cases c3_3 : v2 = 3
          · have hV := jT1 hV c3_3
            refine lv_tableIn (tgt := 95) hx hb dX8_performance_23 (by rw [c3_3]; decide) (by rw [c3_3]; decide) (by rw [c3_3]; rfl) (by decide) ?_
            refine lv_aload_n hx hb dX8_performance_95 rfl (lv_at hl 1 rfl) ?_
            refine va_get (D := D) (ci := 10) (v := .ref (B 0 0)) (C := RX8) (T := TX8) (N := 8) hx hb hts ju_X8 hown hK hP 0 rfl rfl 0 (by decide) (hts _ jq_1_19) (fun _ h9 => h9) rfl dX8_performance_96 ?_
            refine lv_iload_n hx hb dX8_performance_99 rfl (lv_at hl 2 rfl) ?_
            refine lv_iconst (v := 0) hx hb dX8_performance_100 (by decide) ?_
            obtain ⟨r9, hr9, hV⟩ := jBind hV
            refine jVpI C dX8_performance_101 (k_X6_seatsAt l D G (B 0) N (M 0) v1 (0 : Int32) r9 hr9) jy_X6_seatsAt jq_18_19 jq_6_9 jq_6_10 ⟨rfl, rfl, Nat.le_of_ble_eq_true rfl, Nat.le_of_ble_eq_true rfl⟩ ⟨Nat.le_of_ble_eq_true rfl, Nat.le_of_ble_eq_true rfl⟩ (sTS_0 hP)  (ci := 8) (iw := 0) rfl rfl rfl hl (rest := []) rfl (Nat.le_of_ble_eq_true rfl) ?_
            cases hV
            exact xRet C rfl dX8_performance_104 rfl rfl rfl (by decide) (by decide) hP hS
          · have hV := jF1 hV c3_3
            by_cases c3_4 : v2 = 4
            · have hV := jT1 hV c3_4
              refine lv_tableIn (tgt := 105) hx hb dX8_performance_23 (by rw [c3_4]; decide) (by rw [c3_4]; decide) (by rw [c3_4]; rfl) (by decide) ?_
              refine lv_aload_n hx hb dX8_performance_105 rfl (lv_at hl 1 rfl) ?_
              refine va_get (D := D) (ci := 10) (v := .ref (B 0 0)) (C := RX8) (T := TX8) (N := 8) hx hb hts ju_X8 hown hK hP 0 rfl rfl 0 (by decide) (hts _ jq_1_19) (fun _ h9 => h9) rfl dX8_performance_106 ?_
              refine lv_iload_n hx hb dX8_performance_109 rfl (lv_at hl 2 rfl) ?_
              refine lv_iconst (v := 1) hx hb dX8_performance_110 (by decide) ?_
              obtain ⟨r8, hr8, hV⟩ := jBind hV
              refine jVpI C dX8_performance_111 (k_X6_seatsAt l D G (B 0) N (M 0) v1 (1 : Int32) r8 hr8) jy_X6_seatsAt jq_18_19 jq_6_9 jq_6_10 ⟨rfl, rfl, Nat.le_of_ble_eq_true rfl, Nat.le_of_ble_eq_true rfl⟩ ⟨Nat.le_of_ble_eq_true rfl, Nat.le_of_ble_eq_true rfl⟩ (sTS_0 hP)  (ci := 8) (iw := 0) rfl rfl rfl hl (rest := []) rfl (Nat.le_of_ble_eq_true rfl) ?_
              cases hV
              exact xRet C rfl dX8_performance_114 rfl rfl rfl (by decide) (by decide) hP hS
            · have hV := jF1 hV c3_4
              by_cases c3_5 : v2 = 5
              · have hV := jT1 hV c3_5
                refine lv_tableIn (tgt := 115) hx hb dX8_performance_23 (by rw [c3_5]; decide) (by rw [c3_5]; decide) (by rw [c3_5]; rfl) (by decide) ?_
                refine lv_aload_n hx hb dX8_performance_115 rfl (lv_at hl 1 rfl) ?_
                refine va_get (D := D) (ci := 10) (v := .ref (B 0 0)) (C := RX8) (T := TX8) (N := 8) hx hb hts ju_X8 hown hK hP 0 rfl rfl 0 (by decide) (hts _ jq_1_19) (fun _ h9 => h9) rfl dX8_performance_116 ?_
                refine lv_iload_n hx hb dX8_performance_119 rfl (lv_at hl 2 rfl) ?_
                refine lv_iconst (v := 2) hx hb dX8_performance_120 (by decide) ?_
                obtain ⟨r7, hr7, hV⟩ := jBind hV
                refine jVpI C dX8_performance_121 (k_X6_seatsAt l D G (B 0) N (M 0) v1 (2 : Int32) r7 hr7) jy_X6_seatsAt jq_18_19 jq_6_9 jq_6_10 ⟨rfl, rfl, Nat.le_of_ble_eq_true rfl, Nat.le_of_ble_eq_true rfl⟩ ⟨Nat.le_of_ble_eq_true rfl, Nat.le_of_ble_eq_true rfl⟩ (sTS_0 hP)  (ci := 8) (iw := 0) rfl rfl rfl hl (rest := []) rfl (Nat.le_of_ble_eq_true rfl) ?_
                cases hV
                exact xRet C rfl dX8_performance_124 rfl rfl rfl (by decide) (by decide) hP hS
              · have hV := jF1 hV c3_5
                by_cases c3_6 : v2 = 6
                · have hV := jT1 hV c3_6
                  refine lv_tableIn (tgt := 125) hx hb dX8_performance_23 (by rw [c3_6]; decide) (by rw [c3_6]; decide) (by rw [c3_6]; rfl) (by decide) ?_
                  refine lv_aload_n hx hb dX8_performance_125 rfl (lv_at hl 1 rfl) ?_
                  refine va_get (D := D) (ci := 10) (v := .ref (B 0 0)) (C := RX8) (T := TX8) (N := 8) hx hb hts ju_X8 hown hK hP 0 rfl rfl 0 (by decide) (hts _ jq_1_19) (fun _ h9 => h9) rfl dX8_performance_126 ?_
                  refine va_getN (D := D) (ci := 8) (v := .ref (B 0 39)) (C := RX6) (T := TX6) (N := 7) (host := "TheatreSeasons") hx hb hts ju_X6 hown hK (sTS_0 hP) 0 rfl rfl 6 (by decide) (va_Nw.use rfl (hK0.2 _ jn_35)) (fun _ h9 => h9) rfl dX8_performance_129 ?_
                  refine lv_iload_n hx hb dX8_performance_132 rfl (lv_at hl 2 rfl) ?_
                  obtain ⟨r6, hr6, hV⟩ := jBind hV
                  refine jVpI C dX8_performance_133 (k_X4_countFor l D G (B 0) N (M 0) v1 r6 hr6) jy_X4_countFor jq_18_20 jq_18_21 jq_18_22 ⟨rfl, rfl, Nat.le_of_ble_eq_true rfl, Nat.le_of_ble_eq_true rfl⟩ ⟨Nat.le_of_ble_eq_true rfl, Nat.le_of_ble_eq_true rfl⟩ (sX6_X4 (sTS_0 hP))  (ci := 6) (iw := 0) rfl rfl rfl hl (rest := []) rfl (Nat.le_of_ble_eq_true rfl) ?_
                  cases hV
                  exact xRet C rfl dX8_performance_136 rfl rfl rfl (by decide) (by decide) hP hS
                · have hV := jF1 hV c3_6
                  by_cases c3_7 : v2 = 7
                  · have hV := jT1 hV c3_7
                    refine lv_tableIn (tgt := 137) hx hb dX8_performance_23 (by rw [c3_7]; decide) (by rw [c3_7]; decide) (by rw [c3_7]; rfl) (by decide) ?_
                    refine lv_aload_n hx hb dX8_performance_137 rfl (lv_at hl 0 rfl) ?_
                    refine va_getN (D := D) (ci := 4) (v := .ref (B 0 24)) (C := RX2) (T := TX2) (N := 7) (host := "TheatreSeasons") hx hb hts ju_X2 hown hK (sX6_X2 (sTS_0 hP)) 0 rfl rfl 6 (by decide) (va_Nw.use rfl (hK0.2 _ jn_19)) (fun _ h9 => h9) rfl dX8_performance_138 ?_
                    refine lv_iload_n hx hb dX8_performance_141 rfl (lv_at hl 2 rfl) ?_
                    refine jVpI C dX8_performance_142 (kt_X5_get l D G (B 0 24) (B 0 25) 24 (Nat.le_of_ble_eq_true rfl) (M 0 12) v1) jy_X5_get jq_7_5 jq_6_13 jq_6_14 ⟨rfl, rfl, Nat.le_of_ble_eq_true rfl, Nat.le_of_ble_eq_true rfl⟩ ⟨Nat.le_of_ble_eq_true rfl, Nat.le_of_ble_eq_true rfl⟩ (sX2_12 (sX6_X2 (sTS_0 hP)))  (ci := 7) (iw := 0) rfl rfl rfl hl (rest := []) rfl (Nat.le_of_ble_eq_true rfl) ?_
                    cases hV
                    exact xRet C rfl dX8_performance_145 rfl rfl rfl (by decide) (by decide) hP hS
                  · have hV := jF1 hV c3_7
                    refine jTabDef (tgt := 146) hx hb dX8_performance_23 (fun k h1 h2 h3 => ?_) (by decide) ?_
                    · rcases (show k = 0 ∨ k = 1 ∨ k = 2 ∨ k = 3 ∨ k = 4 ∨ k = 5 ∨ k = 6 ∨ k = 7 by omega) with rfl | rfl | rfl | rfl | rfl | rfl | rfl | rfl <;> first | rfl | exact absurd (Int32.toInt_inj.mp (h3.trans (by decide))) c3_0 | exact absurd (Int32.toInt_inj.mp (h3.trans (by decide))) c3_1 | exact absurd (Int32.toInt_inj.mp (h3.trans (by decide))) c3_2 | exact absurd (Int32.toInt_inj.mp (h3.trans (by decide))) c3_3 | exact absurd (Int32.toInt_inj.mp (h3.trans (by decide))) c3_4 | exact absurd (Int32.toInt_inj.mp (h3.trans (by decide))) c3_5 | exact absurd (Int32.toInt_inj.mp (h3.trans (by decide))) c3_6 | exact absurd (Int32.toInt_inj.mp (h3.trans (by decide))) c3_7
                    · obtain ⟨sa4, hsa4⟩ := hZ.2.2.2.2.2.2 _ jms_116
                      cases hV
                      exact xThrow C hno hl0 (by decide) (by decide) jq_6_2 jq_6_3 hsa4 (xat_118 C) xgd_118_114 hZ hS hA hP hl dX8_performance_146 dX8_performance_149 dX8_performance_150 dX8_performance_152 dX8_performance_155 (rest := []) (Nat.le_of_ble_eq_true rfl) (Nat.le_of_ble_eq_true rfl) (Nat.le_of_ble_eq_true rfl) (Nat.le_of_ble_eq_true rfl) (by decide) (by decide) (show (2 : Int32) ≠ 0 by decide) (show exN 2 = "java/lang/IllegalArgumentException" by decide)
  · have hP : va_P D vwCl (wTS B G M) H := hP.kept (fun k q hq => hkp q.1 (hP k q hq).lt (fun h => h.elim (fun ⟨_, _, h⟩ => by simp at h) (fun h => Nat.lt_irrefl _ (Nat.lt_of_lt_of_le (hP k q hq).lt h))))
    have hV := jF1 hV hk
    cases hV
    exact xOut C hno hk hce hcv hcl (by decide) (by decide) hP hS
theorem jy_X8_on : jY yX8_on cX8_on 4 (some .int) 2 := ⟨by decide +kernel, jq_19_10, jq_1_2⟩
def F_X8_on (N : Nat)  (M : Nat → Nat → Nat → Int32) (v1 v2 : Int32) : Option (Int32 × Int32 × (Nat → Nat → Nat → Int32)) := (if (ckIndex (jIn v1 0 2)) = 0 then (if (ckArgument (jIn v2 0 29)) = 0 then ((F_X2_find N (M 0) v1 v2).bind (fun r5 => (if r5 = (-1 : Int32) then (some ((5 : Int32), (0 : Int32), M)) else (some ((0 : Int32), r5, M))))) else (some ((ckArgument (jIn v2 0 29)), (0 : Int32), M))) else (some ((ckIndex (jIn v1 0 2)), (0 : Int32), M)))
set_option maxHeartbeats 4000000 in
set_option maxRecDepth 100000 in
theorem k_X8_on (l : Launch) (hl0 : l.stackTraces = false) (D : va_G) (G : Nat → ClassId) (B : Nat → Nat → Nat) (ks va : Nat → Nat) (N : Nat) (M : Nat → Nat → Nat → Int32) (v1 v2 : Int32) (r : (Int32 × Int32 × (Nat → Nat → Nat → Int32))) (hV : F_X8_on N  M v1 v2 = some r) : xM l yX8_on (jws yX8_on cX8_on 4 (some .int)) ({ frames := 8, cells := 3, slots := 18, locals := 120 } : Room) [.ref (B 9 0), .int v1, .int v2] D G ks va (wTS B G M) (wTS B G r.2.2) r.1 (some (.int r.2.1)) := by
  refine xM_of (by decide +kernel) (Nat.le_of_ble_eq_true rfl) (fun p e s m args below meth c ls A C hno hP hD hA hZ hl => ?_)
  have C : Cx p s m args meth c cX8_on 4 RX8 (some .int) D G := C
  have hS : va_S A s.heap s.heap [] := va_S.rf
  obtain ⟨hx, hb, hr, hml, hts, hown, hlocks, hK0⟩ := id C
  have hK := hK0.1
  have hl : lv_has ls 4 [(0, .ref (B 9 0)), (1, .int v1), (2, .int v2)] := hl
  rw [F_X8_on] at hV
  refine lv_iload_n hx hb dX8_on_0 rfl (lv_at hl 1 rfl) ?_
  refine jSpI C dX8_on_1 (kt_X8_isStage l D G    v1) jy_X8_isStage jq_19_11 jq_13_0 ⟨rfl, rfl, Nat.le_of_ble_eq_true rfl, Nat.le_of_ble_eq_true rfl⟩ ⟨Nat.le_of_ble_eq_true rfl, Nat.le_of_ble_eq_true rfl⟩ jE  hl (rest := []) rfl (Nat.le_of_ble_eq_true rfl) ?_
  refine jSx C dX8_on_4 (kx_X8_checkIndex l hl0 D G ks va (jIn v1 0 2)) jy_X8_checkIndex jq_11_19 jq_11_20 ⟨Nat.le_of_ble_eq_true rfl, Nat.le_of_ble_eq_true rfl⟩ ⟨Nat.le_of_ble_eq_true rfl, Nat.le_of_ble_eq_true rfl⟩ hZ jE (jDnd.mpr ⟨List.nodup_nil, fun q h => nomatch h⟩) hA hS hl (rest := []) rfl (Nat.le_of_ble_eq_true rfl) (fun H locs hQ hz hkp hS => ⟨fun hk => ?_, fun hk ce q hce hcv hcl => ?_⟩)
  · have hP : va_P D vwCl (wTS B G M) H := hP.kept (fun k q hq => hkp q.1 (hP k q hq).lt (fun h => h.elim (fun ⟨_, _, h⟩ => by simp at h) (fun h => Nat.lt_irrefl _ (Nat.lt_of_lt_of_le (hP k q hq).lt h))))
    have hV := jT1 hV hk
    refine W.eq (g2 := F0 m 7 ls []) rfl ?_
    refine lv_iload_n hx hb dX8_on_7 rfl (lv_at hl 2 rfl) ?_
    refine jSpI C dX8_on_8 (kt_X8_isDate l D G    v2) jy_X8_isDate jq_19_12 jq_13_3 ⟨rfl, rfl, Nat.le_of_ble_eq_true rfl, Nat.le_of_ble_eq_true rfl⟩ ⟨Nat.le_of_ble_eq_true rfl, Nat.le_of_ble_eq_true rfl⟩ jE  hl (rest := []) rfl (Nat.le_of_ble_eq_true rfl) ?_
    refine jSx C dX8_on_11 (kx_X8_checkArgument l hl0 D G ks va (jIn v2 0 29)) jy_X8_checkArgument jq_12_0 jq_12_1 ⟨Nat.le_of_ble_eq_true rfl, Nat.le_of_ble_eq_true rfl⟩ ⟨Nat.le_of_ble_eq_true rfl, Nat.le_of_ble_eq_true rfl⟩ hZ jE (jDnd.mpr ⟨List.nodup_nil, fun q h => nomatch h⟩) hA hS hl (rest := []) rfl (Nat.le_of_ble_eq_true rfl) (fun H locs hQ hz hkp hS => ⟨fun hk => ?_, fun hk ce q hce hcv hcl => ?_⟩)
    · have hP : va_P D vwCl (wTS B G M) H := hP.kept (fun k q hq => hkp q.1 (hP k q hq).lt (fun h => h.elim (fun ⟨_, _, h⟩ => by simp at h) (fun h => Nat.lt_irrefl _ (Nat.lt_of_lt_of_le (hP k q hq).lt h))))
      have hV := jT1 hV hk
      refine W.eq (g2 := F0 m 14 ls []) rfl ?_
      refine lv_aload_n hx hb dX8_on_14 rfl (lv_at hl 0 rfl) ?_
      refine va_get (D := D) (ci := 10) (v := .ref (B 0 0)) (C := RX8) (T := TX8) (N := 8) hx hb hts ju_X8 hown hK hP 0 rfl rfl 0 (by decide) (hts _ jq_1_19) (fun _ h9 => h9) rfl dX8_on_15 ?_
      refine va_getN (D := D) (ci := 8) (v := .ref (B 0 37)) (C := RX6) (T := TX6) (N := 7) (host := "TheatreSeasons") hx hb hts ju_X6 hown hK (sTS_0 hP) 0 rfl rfl 4 (by decide) (va_Nw.use rfl (hK0.2 _ jn_33)) (fun _ h9 => h9) rfl dX8_on_18 ?_
      refine lv_iload_n hx hb dX8_on_21 rfl (lv_at hl 1 rfl) ?_
      refine lv_iload_n hx hb dX8_on_22 rfl (lv_at hl 2 rfl) ?_
      obtain ⟨r5, hr5, hV⟩ := jBind hV
      refine jVpI C dX8_on_23 (k_X2_find l D G (B 0) N (M 0) v1 v2 r5 hr5) jy_X2_find jq_19_13 jq_19_14 jq_19_15 ⟨rfl, rfl, Nat.le_of_ble_eq_true rfl, Nat.le_of_ble_eq_true rfl⟩ ⟨Nat.le_of_ble_eq_true rfl, Nat.le_of_ble_eq_true rfl⟩ (sX6_X2 (sTS_0 hP))  (ci := 4) (iw := 0) rfl rfl rfl hl (rest := []) rfl (Nat.le_of_ble_eq_true rfl) ?_
      refine lv_istore_n (lv' := [(3, .int r5), (0, .ref (B 9 0)), (1, .int v1), (2, .int v2)]) hx hb dX8_on_26 rfl hl (by decide) rfl (fun ls hl => ?_)
      refine lv_iload_n hx hb dX8_on_27 rfl (lv_at hl 0 rfl) ?_
      refine lv_iconst (v := -1) hx hb dX8_on_28 (by decide) ?_
      refine lv_icmp_ne (tgt := 42) hx hb dX8_on_29 (by decide) (fun c7 => ?_) (fun c7 => ?_)
      · have hV := jF1 hV c7
        refine lv_iload_n hx hb dX8_on_42 rfl (lv_at hl 0 rfl) ?_
        cases hV
        exact xRet C rfl dX8_on_43 rfl rfl rfl (by decide) (by decide) hP hS
      · have hV := jT1 hV c7
        obtain ⟨sa6, hsa6⟩ := hZ.2.2.2.2.2.2 _ jms_173
        cases hV
        exact xThrowN C hno hl0 (by decide) (by decide) jqn_0 jq_14_23 hsa6 (xat_175 C) xgd_175_171 hZ hS hA hP hl dX8_on_32 dX8_on_35 dX8_on_36 dX8_on_38 dX8_on_41 (rest := []) (Nat.le_of_ble_eq_true rfl) (Nat.le_of_ble_eq_true rfl) (Nat.le_of_ble_eq_true rfl) (Nat.le_of_ble_eq_true rfl) (by decide) (by decide) (show (5 : Int32) ≠ 0 by decide) (show exN 5 = "java/util/NoSuchElementException" by decide)
    · have hP : va_P D vwCl (wTS B G M) H := hP.kept (fun k q hq => hkp q.1 (hP k q hq).lt (fun h => h.elim (fun ⟨_, _, h⟩ => by simp at h) (fun h => Nat.lt_irrefl _ (Nat.lt_of_lt_of_le (hP k q hq).lt h))))
      have hV := jF1 hV hk
      cases hV
      exact xOut C hno hk hce hcv hcl (by decide) (by decide) hP hS
  · have hP : va_P D vwCl (wTS B G M) H := hP.kept (fun k q hq => hkp q.1 (hP k q hq).lt (fun h => h.elim (fun ⟨_, _, h⟩ => by simp at h) (fun h => Nat.lt_irrefl _ (Nat.lt_of_lt_of_le (hP k q hq).lt h))))
    have hV := jF1 hV hk
    cases hV
    exact xOut C hno hk hce hcv hcl (by decide) (by decide) hP hS
theorem jy_X8_load : jY yX8_load cX8_load 2 (some .int) 1 := ⟨by decide +kernel, jq_20_17, jq_1_2⟩
def F_X8_load (N : Nat)  (M : Nat → Nat → Nat → Int32) (v1 : Int32) : Option (Int32 × Int32 × (Nat → Nat → Nat → Int32)) := (if (ckArgument (jIn v1 0 29)) = 0 then ((F_X3_loadIf N (M 0) v1 (-1 : Int32) (0 : Int32)).bind (fun r3 => (some ((0 : Int32), r3, M)))) else (some ((ckArgument (jIn v1 0 29)), (0 : Int32), M)))
set_option maxHeartbeats 4000000 in
set_option maxRecDepth 100000 in
theorem k_X8_load (l : Launch) (hl0 : l.stackTraces = false) (D : va_G) (G : Nat → ClassId) (B : Nat → Nat → Nat) (ks va : Nat → Nat) (N : Nat) (M : Nat → Nat → Nat → Int32) (v1 : Int32) (r : (Int32 × Int32 × (Nat → Nat → Nat → Int32))) (hV : F_X8_load N  M v1 = some r) : xM l yX8_load (jws yX8_load cX8_load 2 (some .int)) ({ frames := 8, cells := 1, slots := 6, locals := 120 } : Room) [.ref (B 9 0), .int v1] D G ks va (wTS B G M) (wTS B G r.2.2) r.1 (some (.int r.2.1)) := by
  refine xM_of (by decide +kernel) (Nat.le_of_ble_eq_true rfl) (fun p e s m args below meth c ls A C hno hP hD hA hZ hl => ?_)
  have C : Cx p s m args meth c cX8_load 2 RX8 (some .int) D G := C
  have hS : va_S A s.heap s.heap [] := va_S.rf
  obtain ⟨hx, hb, hr, hml, hts, hown, hlocks, hK0⟩ := id C
  have hK := hK0.1
  have hl : lv_has ls 2 [(0, .ref (B 9 0)), (1, .int v1)] := hl
  rw [F_X8_load] at hV
  refine lv_iload_n hx hb dX8_load_0 rfl (lv_at hl 1 rfl) ?_
  refine jSpI C dX8_load_1 (kt_X8_isDate l D G    v1) jy_X8_isDate jq_19_12 jq_13_3 ⟨rfl, rfl, Nat.le_of_ble_eq_true rfl, Nat.le_of_ble_eq_true rfl⟩ ⟨Nat.le_of_ble_eq_true rfl, Nat.le_of_ble_eq_true rfl⟩ jE  hl (rest := []) rfl (Nat.le_of_ble_eq_true rfl) ?_
  refine jSx C dX8_load_4 (kx_X8_checkArgument l hl0 D G ks va (jIn v1 0 29)) jy_X8_checkArgument jq_12_0 jq_12_1 ⟨Nat.le_of_ble_eq_true rfl, Nat.le_of_ble_eq_true rfl⟩ ⟨Nat.le_of_ble_eq_true rfl, Nat.le_of_ble_eq_true rfl⟩ hZ jE (jDnd.mpr ⟨List.nodup_nil, fun q h => nomatch h⟩) hA hS hl (rest := []) rfl (Nat.le_of_ble_eq_true rfl) (fun H locs hQ hz hkp hS => ⟨fun hk => ?_, fun hk ce q hce hcv hcl => ?_⟩)
  · have hP : va_P D vwCl (wTS B G M) H := hP.kept (fun k q hq => hkp q.1 (hP k q hq).lt (fun h => h.elim (fun ⟨_, _, h⟩ => by simp at h) (fun h => Nat.lt_irrefl _ (Nat.lt_of_lt_of_le (hP k q hq).lt h))))
    have hV := jT1 hV hk
    refine W.eq (g2 := F0 m 7 ls []) rfl ?_
    refine lv_aload_n hx hb dX8_load_7 rfl (lv_at hl 0 rfl) ?_
    refine va_get (D := D) (ci := 10) (v := .ref (B 0 0)) (C := RX8) (T := TX8) (N := 8) hx hb hts ju_X8 hown hK hP 0 rfl rfl 0 (by decide) (hts _ jq_1_19) (fun _ h9 => h9) rfl dX8_load_8 ?_
    refine va_getN (D := D) (ci := 8) (v := .ref (B 0 36)) (C := RX6) (T := TX6) (N := 7) (host := "TheatreSeasons") hx hb hts ju_X6 hown hK (sTS_0 hP) 0 rfl rfl 3 (by decide) (va_Nw.use rfl (hK0.2 _ jn_32)) (fun _ h9 => h9) rfl dX8_load_11 ?_
    refine lv_iload_n hx hb dX8_load_14 rfl (lv_at hl 1 rfl) ?_
    refine lv_iconst (v := -1) hx hb dX8_load_15 (by decide) ?_
    refine lv_iconst (v := 0) hx hb dX8_load_16 (by decide) ?_
    obtain ⟨r3, hr3, hV⟩ := jBind hV
    refine jVpI C dX8_load_17 (k_X3_loadIf l D G (B 0) N (M 0) v1 (-1 : Int32) (0 : Int32) r3 hr3) jy_X3_loadIf jq_20_18 jq_7_16 jq_7_17 ⟨rfl, rfl, Nat.le_of_ble_eq_true rfl, Nat.le_of_ble_eq_true rfl⟩ ⟨Nat.le_of_ble_eq_true rfl, Nat.le_of_ble_eq_true rfl⟩ (sX6_X3 (sTS_0 hP))  (ci := 5) (iw := 0) rfl rfl rfl hl (rest := []) rfl (Nat.le_of_ble_eq_true rfl) ?_
    cases hV
    exact xRet C rfl dX8_load_20 rfl rfl rfl (by decide) (by decide) hP hS
  · have hP : va_P D vwCl (wTS B G M) H := hP.kept (fun k q hq => hkp q.1 (hP k q hq).lt (fun h => h.elim (fun ⟨_, _, h⟩ => by simp at h) (fun h => Nat.lt_irrefl _ (Nat.lt_of_lt_of_le (hP k q hq).lt h))))
    have hV := jF1 hV hk
    cases hV
    exact xOut C hno hk hce hcv hcl (by decide) (by decide) hP hS
theorem jy_X8_peak : jY yX8_peak cX8_peak 1 (some .int) 0 := ⟨by decide +kernel, jq_7_9, jq_1_2⟩
def F_X8_peak (N : Nat)  (M : Nat → Nat → Nat → Int32) : Option Int32 := ((F_X3_peakIf N (M 0) (-1 : Int32) (0 : Int32)).bind (fun r1 => (some r1)))
set_option maxHeartbeats 4000000 in
set_option maxRecDepth 100000 in
theorem k_X8_peak (l : Launch) (D : va_G) (G : Nat → ClassId) (B : Nat → Nat → Nat) (N : Nat) (M : Nat → Nat → Nat → Int32) (r : Int32) (hV : F_X8_peak N  M  = some r) : pM l yX8_peak (jws yX8_peak cX8_peak 1 (some .int)) ({ frames := 3, cells := 0, slots := 0, locals := 74 } : Room) [.ref (B 9 0)] D G (wTS B G M) (some (.int r)) := by
  refine pM_of (by decide +kernel) (Nat.le_of_ble_eq_true rfl) (fun p e s m args below meth c ls C hP hl => ?_)
  have C : Cx p s m args meth c cX8_peak 1 RX8 (some .int) D G := C
  obtain ⟨hx, hb, hr, hml, hts, hown, hlocks, hK0⟩ := id C
  have hK := hK0.1
  have hl : lv_has ls 1 [(0, .ref (B 9 0))] := hl
  rw [F_X8_peak] at hV
  refine lv_aload_n hx hb dX8_peak_0 rfl (lv_at hl 0 rfl) ?_
  refine va_get (D := D) (ci := 10) (v := .ref (B 0 0)) (C := RX8) (T := TX8) (N := 8) hx hb hts ju_X8 hown hK hP 0 rfl rfl 0 (by decide) (hts _ jq_1_19) (fun _ h9 => h9) rfl dX8_peak_1 ?_
  refine va_getN (D := D) (ci := 8) (v := .ref (B 0 36)) (C := RX6) (T := TX6) (N := 7) (host := "TheatreSeasons") hx hb hts ju_X6 hown hK (sTS_0 hP) 0 rfl rfl 3 (by decide) (va_Nw.use rfl (hK0.2 _ jn_32)) (fun _ h9 => h9) rfl dX8_peak_4 ?_
  refine lv_iconst (v := -1) hx hb dX8_peak_7 (by decide) ?_
  refine lv_iconst (v := 0) hx hb dX8_peak_8 (by decide) ?_
  obtain ⟨r1, hr1, hV⟩ := jBind hV
  refine jVpI C dX8_peak_9 (k_X3_peakIf l D G (B 0) N (M 0) (-1 : Int32) (0 : Int32) r1 hr1) jy_X3_peakIf jq_7_10 jq_7_11 jq_7_12 ⟨rfl, rfl, Nat.le_of_ble_eq_true rfl, Nat.le_of_ble_eq_true rfl⟩ ⟨Nat.le_of_ble_eq_true rfl, Nat.le_of_ble_eq_true rfl⟩ (sX6_X3 (sTS_0 hP))  (ci := 5) (iw := 0) rfl rfl rfl hl (rest := []) rfl (Nat.le_of_ble_eq_true rfl) ?_
  exact pRet C rfl dX8_peak_12 rfl (Option.some.inj hV)
