/-! floats: no result is NaN -/
theorem fp_n32 {r : UInt32} (h : r.toNat % 2 ^ 31 < 255 * 2 ^ 23) : vf_n32 r := by
  unfold vf_n32
  rw [UInt32.le_iff_toNat_le, UInt32.toNat_and]
  have e : (0x7fffffff : UInt32).toNat = 2 ^ 31 - 1 := rfl
  have e2 : (0x7f800000 : UInt32).toNat = 255 * 2 ^ 23 := rfl
  rw [e, e2, Nat.and_two_pow_sub_one_eq_mod]
  omega
theorem fp_n64 {r : UInt64} (h : r.toNat % 2 ^ 63 < 2047 * 2 ^ 52) : vf_n64 r := by
  unfold vf_n64
  rw [UInt64.le_iff_toNat_le, UInt64.toNat_and]
  have e : (0x7fffffffffffffff : UInt64).toNat = 2 ^ 63 - 1 := rfl
  have e2 : (0x7ff0000000000000 : UInt64).toNat = 2047 * 2 ^ 52 := rfl
  rw [e, e2, Nat.and_two_pow_sub_one_eq_mod]
  omega
theorem fp_mulm (x y : Int32) : (FP.fmul (FP.i2f x) (FP.i2f y)).toNat % 2 ^ 31 < 194 * 2 ^ 23 := by
  have := FP.Core.fmul_mag (FP.Core.i2f_mag x) (FP.Core.i2f_mag y) (by decide) (by decide)
  exact this
theorem fp_mul (x y : Int32) : vf_n32 (FP.fmul (FP.i2f x) (FP.i2f y)) := fp_n32 (by have := fp_mulm x y; omega)
theorem fp_divm (x y : Int32) : (FP.fdiv (FP.fmul (FP.i2f x) (FP.i2f y)) 1120403456).toNat % 2 ^ 31 < 189 * 2 ^ 23 := by
  have := FP.Core.fdiv_mag (L := 133) (fp_mulm x y) (b := 1120403456) (by decide) (by decide) (by decide) (by decide)
  exact this
theorem fp_div (x y : Int32) : vf_n32 (FP.fdiv (FP.fmul (FP.i2f x) (FP.i2f y)) 1120403456) := fp_n32 (by have := fp_divm x y; omega)
theorem fp_ddivm (x : Int32) {y : Int32} (h : y ≠ 0) : (FP.ddiv (FP.i2d x) (FP.i2d y)).toNat % 2 ^ 63 < 1057 * 2 ^ 52 := by
  have h2 := FP.Core.i2d_big (FP.Core.int32_ne h)
  have := FP.Core.ddiv_mag (FP.Core.i2d_mag x) h2.1 h2.2 (by decide) (by decide)
  exact this
theorem fp_ddiv (x : Int32) {y : Int32} (h : y ≠ 0) : vf_n64 (FP.ddiv (FP.i2d x) (FP.i2d y)) := fp_n64 (by have := fp_ddivm x h; omega)
section FLO
variable {p : Program} {l : Launch} {e : Env} {R : Room} {s : State} {m : MethodId} {args : Array Value} {below : List Frame} {meth : Method} {c : Code} {H : Heap} {locs : List Loc} {cells slots mc ms : Nat} {cc : ByteArray} {nL : Nat} {own : String} {ret : Option FieldType} {D : va_G} {G : Nat → ClassId} {pc : Nat} {ls : Array Slot} {A : Nat → Prop} {w' : va_W} {k : Int32}
theorem mRetF (C : Cx p s m args meth c cc nL own ret D G) (ht : ret = some .float) (hdg : decode cc pc = .ok (.freturn, 1)) {v r : UInt32} (hv : v = r) (hP : va_P D vwCl w' H) (hS : va_S A s.heap H locs) :
    W p l e R s m args below meth c H locs 0 0 (MQ below (mQ D w' (some (.float r)) A) args s 0 0 A) (F0 m pc ls [.float v]) := by
  obtain ⟨hx, hb, hr, -, -, -, hlocks, -⟩ := C
  subst hv; subst ht
  exact W.fret hx hb hr (fun t ht _ => ⟨rfl, by rw [ht]; exact hP, hS.F ht⟩) hS.2.2 hdg hlocks
theorem mRetD (C : Cx p s m args meth c cc nL own ret D G) (ht : ret = some .double) (hdg : decode cc pc = .ok (.dreturn, 1)) {v r : UInt64} (hv : v = r) (hP : va_P D vwCl w' H) (hS : va_S A s.heap H locs) :
    W p l e R s m args below meth c H locs 0 0 (MQ below (mQ D w' (some (.double r)) A) args s 0 0 A) (F0 m pc ls [.double v]) := by
  obtain ⟨hx, hb, hr, -, -, -, hlocks, -⟩ := C
  subst hv; subst ht
  exact W.dret hx hb hr (fun t ht _ => ⟨rfl, by rw [ht]; exact hP, hS.F ht⟩) hS.2.2 hdg hlocks
theorem xRetF (C : Cx p s m args meth c cc nL own ret D G) (ht : ret = some .float) (hdg : decode cc pc = .ok (.freturn, 1)) {v r : UInt32} (hv : v = r) (hk : k = 0) (hc : cells ≤ mc) (hs : slots ≤ ms) (hP : va_P D vwCl w' H) (hS : va_S A s.heap H locs) :
    W p l e R s m args below meth c H locs cells slots (vx_MQ below (xQ D w' k (some (.float r)) A) (xX D w' k A) args s mc ms A) (F0 m pc ls [.float v]) := by
  obtain ⟨hx, hb, hr, -, -, -, hlocks, -⟩ := C
  subst hv; subst ht
  refine vx_ret ?_
  refine W.widen hc hs ?_
  exact W.fret hx hb hr (fun t ht _ => ⟨hk, rfl, by rw [ht]; exact hP, hS.F ht⟩) hS.2.2 hdg hlocks
theorem xRetD (C : Cx p s m args meth c cc nL own ret D G) (ht : ret = some .double) (hdg : decode cc pc = .ok (.dreturn, 1)) {v r : UInt64} (hv : v = r) (hk : k = 0) (hc : cells ≤ mc) (hs : slots ≤ ms) (hP : va_P D vwCl w' H) (hS : va_S A s.heap H locs) :
    W p l e R s m args below meth c H locs cells slots (vx_MQ below (xQ D w' k (some (.double r)) A) (xX D w' k A) args s mc ms A) (F0 m pc ls [.double v]) := by
  obtain ⟨hx, hb, hr, -, -, -, hlocks, -⟩ := C
  subst hv; subst ht
  refine vx_ret ?_
  refine W.widen hc hs ?_
  exact W.dret hx hb hr (fun t ht _ => ⟨hk, rfl, by rw [ht]; exact hP, hS.F ht⟩) hS.2.2 hdg hlocks
end FLO
theorem jy_X8_partner : jY yX8_partner cX8_partner 3 (some .float) 1 := ⟨by decide +kernel, jq_21_14, jq_1_2⟩
def F_X8_partner (N : Nat)  (M : Nat → Nat → Nat → Int32) (v1 : Int32) : Option (Int32 × UInt32 × (Nat → Nat → Nat → Int32)) := ((F_X3_has N (M 0) v1).bind (fun r1 => (if (ckIndex r1) = 0 then ((F_X6_takingsOf N (M 0) v1).bind (fun r4 => (some ((0 : Int32), (FP.fdiv (FP.fmul (FP.i2f r4) (FP.i2f (rg 8 (M 0 5) v1))) (1120403456 : UInt32)), M)))) else (some ((ckIndex r1), (0 : UInt32), M)))))
set_option maxHeartbeats 4000000 in
set_option maxRecDepth 100000 in
theorem k_X8_partner (l : Launch) (hl0 : l.stackTraces = false) (D : va_G) (G : Nat → ClassId) (B : Nat → Nat → Nat) (ks va : Nat → Nat) (N : Nat) (M : Nat → Nat → Nat → Int32) (v1 : Int32) (r : (Int32 × UInt32 × (Nat → Nat → Nat → Int32))) (hV : F_X8_partner N  M v1 = some r) : xM l yX8_partner (jws yX8_partner cX8_partner 3 (some .float)) ({ frames := 8, cells := 1, slots := 6, locals := 120 } : Room) [.ref (B 9 0), .int v1] D G ks va (wTS B G M) (wTS B G r.2.2) r.1 (some (.float r.2.1)) := by
  refine xM_of (by decide +kernel) (Nat.le_of_ble_eq_true rfl) (fun p e s m args below meth c ls A C hno hP hD hA hZ hl => ?_)
  have C : Cx p s m args meth c cX8_partner 3 RX8 (some .float) D G := C
  have hS : va_S A s.heap s.heap [] := va_S.rf
  obtain ⟨hx, hb, hr, hml, hts, hown, hlocks, hK0⟩ := id C
  have hK := hK0.1
  have hl : lv_has ls 3 [(0, .ref (B 9 0)), (1, .int v1)] := hl
  rw [F_X8_partner] at hV
  refine lv_aload_n hx hb dX8_partner_0 rfl (lv_at hl 0 rfl) ?_
  refine va_get (D := D) (ci := 10) (v := .ref (B 0 0)) (C := RX8) (T := TX8) (N := 8) hx hb hts ju_X8 hown hK hP 0 rfl rfl 0 (by decide) (hts _ jq_1_19) (fun _ h9 => h9) rfl dX8_partner_1 ?_
  refine va_getN (D := D) (ci := 8) (v := .ref (B 0 36)) (C := RX6) (T := TX6) (N := 7) (host := "TheatreSeasons") hx hb hts ju_X6 hown hK (sTS_0 hP) 0 rfl rfl 3 (by decide) (va_Nw.use rfl (hK0.2 _ jn_32)) (fun _ h9 => h9) rfl dX8_partner_4 ?_
  refine lv_iload_n hx hb dX8_partner_7 rfl (lv_at hl 1 rfl) ?_
  obtain ⟨r1, hr1, hV⟩ := jBind hV
  refine jVpI C dX8_partner_8 (k_X3_has l D G (B 0) N (M 0) v1 r1 hr1) jy_X3_has jq_20_5 jq_12_21 jq_12_22 ⟨rfl, rfl, Nat.le_of_ble_eq_true rfl, Nat.le_of_ble_eq_true rfl⟩ ⟨Nat.le_of_ble_eq_true rfl, Nat.le_of_ble_eq_true rfl⟩ (sX6_X3 (sTS_0 hP))  (ci := 5) (iw := 0) rfl rfl rfl hl (rest := []) rfl (Nat.le_of_ble_eq_true rfl) ?_
  refine jSx C dX8_partner_11 (kx_X8_checkIndex l hl0 D G ks va r1) jy_X8_checkIndex jq_11_19 jq_11_20 ⟨Nat.le_of_ble_eq_true rfl, Nat.le_of_ble_eq_true rfl⟩ ⟨Nat.le_of_ble_eq_true rfl, Nat.le_of_ble_eq_true rfl⟩ hZ jE (jDnd.mpr ⟨List.nodup_nil, fun q h => nomatch h⟩) hA hS hl (rest := []) rfl (Nat.le_of_ble_eq_true rfl) (fun H locs hQ hz hkp hS => ⟨fun hk => ?_, fun hk ce q hce hcv hcl => ?_⟩)
  · have hP : va_P D vwCl (wTS B G M) H := hP.kept (fun k q hq => hkp q.1 (hP k q hq).lt (fun h => h.elim (fun ⟨_, _, h⟩ => by simp at h) (fun h => Nat.lt_irrefl _ (Nat.lt_of_lt_of_le (hP k q hq).lt h))))
    have hV := jT1 hV hk
    refine W.eq (g2 := F0 m 14 ls []) rfl ?_
    refine lv_aload_n hx hb dX8_partner_14 rfl (lv_at hl 0 rfl) ?_
    refine va_get (D := D) (ci := 10) (v := .ref (B 0 0)) (C := RX8) (T := TX8) (N := 8) hx hb hts ju_X8 hown hK hP 0 rfl rfl 0 (by decide) (hts _ jq_1_19) (fun _ h9 => h9) rfl dX8_partner_15 ?_
    refine va_getN (D := D) (ci := 8) (v := .ref (B 0 36)) (C := RX6) (T := TX6) (N := 7) (host := "TheatreSeasons") hx hb hts ju_X6 hown hK (sTS_0 hP) 0 rfl rfl 3 (by decide) (va_Nw.use rfl (hK0.2 _ jn_32)) (fun _ h9 => h9) rfl dX8_partner_18 ?_
    refine va_getN (D := D) (ci := 5) (v := .ref (B 0 10)) (C := RX3) (T := TX3) (N := 6) (host := "TheatreSeasons") hx hb hts ju_X3 hown hK (sX6_X3 (sTS_0 hP)) 0 rfl rfl 4 (by decide) (va_Nw.use rfl (hK0.2 _ jn_6)) (fun _ h9 => h9) rfl dX8_partner_21 ?_
    refine lv_iload_n hx hb dX8_partner_24 rfl (lv_at hl 1 rfl) ?_
    refine jVpI C dX8_partner_25 (kt_X5_get l D G (B 0 10) (B 0 11) 8 (Nat.le_of_ble_eq_true rfl) (M 0 5) v1) jy_X5_get jq_7_5 jq_6_13 jq_6_14 ⟨rfl, rfl, Nat.le_of_ble_eq_true rfl, Nat.le_of_ble_eq_true rfl⟩ ⟨Nat.le_of_ble_eq_true rfl, Nat.le_of_ble_eq_true rfl⟩ (sX3_5 (sX6_X3 (sTS_0 hP)))  (ci := 7) (iw := 0) rfl rfl rfl hl (rest := []) rfl (Nat.le_of_ble_eq_true rfl) ?_
    refine lv_istore_n (lv' := [(2, .int (rg 8 (M 0 5) v1)), (0, .ref (B 9 0)), (1, .int v1)]) hx hb dX8_partner_28 rfl hl (by decide) rfl (fun ls hl => ?_)
    refine lv_aload_n hx hb dX8_partner_29 rfl (lv_at hl 1 rfl) ?_
    refine va_get (D := D) (ci := 10) (v := .ref (B 0 0)) (C := RX8) (T := TX8) (N := 8) hx hb hts ju_X8 hown hK hP 0 rfl rfl 0 (by decide) (hts _ jq_1_19) (fun _ h9 => h9) rfl dX8_partner_30 ?_
    refine lv_iload_n hx hb dX8_partner_33 rfl (lv_at hl 2 rfl) ?_
    obtain ⟨r4, hr4, hV⟩ := jBind hV
    refine jVpI C dX8_partner_34 (k_X6_takingsOf l D G (B 0) N (M 0) v1 r4 hr4) jy_X6_takingsOf jq_20_13 jq_7_2 jq_7_3 ⟨rfl, rfl, Nat.le_of_ble_eq_true rfl, Nat.le_of_ble_eq_true rfl⟩ ⟨Nat.le_of_ble_eq_true rfl, Nat.le_of_ble_eq_true rfl⟩ (sTS_0 hP)  (ci := 8) (iw := 0) rfl rfl rfl hl (rest := []) rfl (Nat.le_of_ble_eq_true rfl) ?_
    refine lv_i2f hx hb dX8_partner_37 ?_
    refine lv_iload_n hx hb dX8_partner_38 rfl (lv_at hl 0 rfl) ?_
    refine lv_i2f hx hb dX8_partner_39 ?_
    refine lv_fmul hx hb dX8_partner_40 (fp_mul _ _) ?_
    refine lv_ldcf hx hb hown (hts _ jq_21_15) dX8_partner_41 ?_
    refine lv_fdiv hx hb dX8_partner_43 (fp_div _ _) ?_
    cases hV
    exact xRetF C rfl dX8_partner_44 rfl rfl (by decide) (by decide) hP hS
  · have hP : va_P D vwCl (wTS B G M) H := hP.kept (fun k q hq => hkp q.1 (hP k q hq).lt (fun h => h.elim (fun ⟨_, _, h⟩ => by simp at h) (fun h => Nat.lt_irrefl _ (Nat.lt_of_lt_of_le (hP k q hq).lt h))))
    have hV := jF1 hV hk
    cases hV
    exact xOut C hno hk hce hcv hcl (by decide) (by decide) hP hS
theorem jy_X8_fullness : jY yX8_fullness cX8_fullness 3 (some .double) 1 := ⟨by decide +kernel, jq_21_19, jq_1_2⟩
def F_X8_fullness (N : Nat)  (M : Nat → Nat → Nat → Int32) (v1 : Int32) : Option (Int32 × UInt64 × (Nat → Nat → Nat → Int32)) := ((F_X3_has N (M 0) v1).bind (fun r1 => (if (ckIndex r1) = 0 then ((F_X6_seatsOfProduction N (M 0) v1 (1 : Int32)).bind (fun r3 => (if 0 < r3 then ((F_X6_seatsOfProduction N (M 0) v1 (0 : Int32)).bind (fun r4 => (if decide (r3 ≠ 0) = true then (some ((0 : Int32), (FP.ddiv (FP.i2d r4) (FP.i2d r3)), M)) else none))) else (some ((6 : Int32), (0 : UInt64), M))))) else (some ((ckIndex r1), (0 : UInt64), M)))))
set_option maxHeartbeats 4000000 in
set_option maxRecDepth 100000 in
theorem k_X8_fullness (l : Launch) (hl0 : l.stackTraces = false) (D : va_G) (G : Nat → ClassId) (B : Nat → Nat → Nat) (ks va : Nat → Nat) (N : Nat) (M : Nat → Nat → Nat → Int32) (v1 : Int32) (r : (Int32 × UInt64 × (Nat → Nat → Nat → Int32))) (hV : F_X8_fullness N  M v1 = some r) : xM l yX8_fullness (jws yX8_fullness cX8_fullness 3 (some .double)) ({ frames := 8, cells := 2, slots := 12, locals := 120 } : Room) [.ref (B 9 0), .int v1] D G ks va (wTS B G M) (wTS B G r.2.2) r.1 (some (.double r.2.1)) := by
  refine xM_of (by decide +kernel) (Nat.le_of_ble_eq_true rfl) (fun p e s m args below meth c ls A C hno hP hD hA hZ hl => ?_)
  have C : Cx p s m args meth c cX8_fullness 3 RX8 (some .double) D G := C
  have hS : va_S A s.heap s.heap [] := va_S.rf
  obtain ⟨hx, hb, hr, hml, hts, hown, hlocks, hK0⟩ := id C
  have hK := hK0.1
  have hl : lv_has ls 3 [(0, .ref (B 9 0)), (1, .int v1)] := hl
  rw [F_X8_fullness] at hV
  refine lv_aload_n hx hb dX8_fullness_0 rfl (lv_at hl 0 rfl) ?_
  refine va_get (D := D) (ci := 10) (v := .ref (B 0 0)) (C := RX8) (T := TX8) (N := 8) hx hb hts ju_X8 hown hK hP 0 rfl rfl 0 (by decide) (hts _ jq_1_19) (fun _ h9 => h9) rfl dX8_fullness_1 ?_
  refine va_getN (D := D) (ci := 8) (v := .ref (B 0 36)) (C := RX6) (T := TX6) (N := 7) (host := "TheatreSeasons") hx hb hts ju_X6 hown hK (sTS_0 hP) 0 rfl rfl 3 (by decide) (va_Nw.use rfl (hK0.2 _ jn_32)) (fun _ h9 => h9) rfl dX8_fullness_4 ?_
  refine lv_iload_n hx hb dX8_fullness_7 rfl (lv_at hl 1 rfl) ?_
  obtain ⟨r1, hr1, hV⟩ := jBind hV
  refine jVpI C dX8_fullness_8 (k_X3_has l D G (B 0) N (M 0) v1 r1 hr1) jy_X3_has jq_20_5 jq_12_21 jq_12_22 ⟨rfl, rfl, Nat.le_of_ble_eq_true rfl, Nat.le_of_ble_eq_true rfl⟩ ⟨Nat.le_of_ble_eq_true rfl, Nat.le_of_ble_eq_true rfl⟩ (sX6_X3 (sTS_0 hP))  (ci := 5) (iw := 0) rfl rfl rfl hl (rest := []) rfl (Nat.le_of_ble_eq_true rfl) ?_
  refine jSx C dX8_fullness_11 (kx_X8_checkIndex l hl0 D G ks va r1) jy_X8_checkIndex jq_11_19 jq_11_20 ⟨Nat.le_of_ble_eq_true rfl, Nat.le_of_ble_eq_true rfl⟩ ⟨Nat.le_of_ble_eq_true rfl, Nat.le_of_ble_eq_true rfl⟩ hZ jE (jDnd.mpr ⟨List.nodup_nil, fun q h => nomatch h⟩) hA hS hl (rest := []) rfl (Nat.le_of_ble_eq_true rfl) (fun H locs hQ hz hkp hS => ⟨fun hk => ?_, fun hk ce q hce hcv hcl => ?_⟩)
  · have hP : va_P D vwCl (wTS B G M) H := hP.kept (fun k q hq => hkp q.1 (hP k q hq).lt (fun h => h.elim (fun ⟨_, _, h⟩ => by simp at h) (fun h => Nat.lt_irrefl _ (Nat.lt_of_lt_of_le (hP k q hq).lt h))))
    have hV := jT1 hV hk
    refine W.eq (g2 := F0 m 14 ls []) rfl ?_
    refine lv_aload_n hx hb dX8_fullness_14 rfl (lv_at hl 0 rfl) ?_
    refine va_get (D := D) (ci := 10) (v := .ref (B 0 0)) (C := RX8) (T := TX8) (N := 8) hx hb hts ju_X8 hown hK hP 0 rfl rfl 0 (by decide) (hts _ jq_1_19) (fun _ h9 => h9) rfl dX8_fullness_15 ?_
    refine lv_iload_n hx hb dX8_fullness_18 rfl (lv_at hl 1 rfl) ?_
    refine lv_iconst (v := 1) hx hb dX8_fullness_19 (by decide) ?_
    obtain ⟨r3, hr3, hV⟩ := jBind hV
    refine jVpI C dX8_fullness_20 (k_X6_seatsOfProduction l D G (B 0) N (M 0) v1 (1 : Int32) r3 hr3) jy_X6_seatsOfProduction jq_21_22 jq_21_23 jq_22_0 ⟨rfl, rfl, Nat.le_of_ble_eq_true rfl, Nat.le_of_ble_eq_true rfl⟩ ⟨Nat.le_of_ble_eq_true rfl, Nat.le_of_ble_eq_true rfl⟩ (sTS_0 hP)  (ci := 8) (iw := 0) rfl rfl rfl hl (rest := []) rfl (Nat.le_of_ble_eq_true rfl) ?_
    refine lv_istore_n (lv' := [(2, .int r3), (0, .ref (B 9 0)), (1, .int v1)]) hx hb dX8_fullness_23 rfl hl (by decide) rfl (fun ls hl => ?_)
    refine lv_iload_n hx hb dX8_fullness_24 rfl (lv_at hl 0 rfl) ?_
    refine lv_if_gt (tgt := 38) hx hb dX8_fullness_25 (by decide) (fun c7 => ?_) (fun c7 => ?_)
    · have hV := jT1 hV c7
      refine lv_aload_n hx hb dX8_fullness_38 rfl (lv_at hl 1 rfl) ?_
      refine va_get (D := D) (ci := 10) (v := .ref (B 0 0)) (C := RX8) (T := TX8) (N := 8) hx hb hts ju_X8 hown hK hP 0 rfl rfl 0 (by decide) (hts _ jq_1_19) (fun _ h9 => h9) rfl dX8_fullness_39 ?_
      refine lv_iload_n hx hb dX8_fullness_42 rfl (lv_at hl 2 rfl) ?_
      refine lv_iconst (v := 0) hx hb dX8_fullness_43 (by decide) ?_
      obtain ⟨r4, hr4, hV⟩ := jBind hV
      refine jVpI C dX8_fullness_44 (k_X6_seatsOfProduction l D G (B 0) N (M 0) v1 (0 : Int32) r4 hr4) jy_X6_seatsOfProduction jq_21_22 jq_21_23 jq_22_0 ⟨rfl, rfl, Nat.le_of_ble_eq_true rfl, Nat.le_of_ble_eq_true rfl⟩ ⟨Nat.le_of_ble_eq_true rfl, Nat.le_of_ble_eq_true rfl⟩ (sTS_0 hP)  (ci := 8) (iw := 0) rfl rfl rfl hl (rest := []) rfl (Nat.le_of_ble_eq_true rfl) ?_
      refine lv_i2d hx hb dX8_fullness_47 ?_
      refine lv_iload_n hx hb dX8_fullness_48 rfl (lv_at hl 0 rfl) ?_
      refine lv_i2d hx hb dX8_fullness_49 ?_
      obtain ⟨g5, hV⟩ := jIf hV
      refine lv_ddiv hx hb dX8_fullness_50 (fp_ddiv _ (of_decide_eq_true g5)) ?_
      cases hV
      exact xRetD C rfl dX8_fullness_51 rfl rfl (by decide) (by decide) hP hS
    · have hV := jF1 hV c7
      obtain ⟨sa6, hsa6⟩ := hZ.2.2.2.2.2.2 _ jms_254
      cases hV
      exact xThrow C hno hl0 (by decide) (by decide) jq_21_20 jq_21_21 hsa6 (xat_256 C) xgd_256_252 hZ hS hA hP hl dX8_fullness_28 dX8_fullness_31 dX8_fullness_32 dX8_fullness_34 dX8_fullness_37 (rest := []) (Nat.le_of_ble_eq_true rfl) (Nat.le_of_ble_eq_true rfl) (Nat.le_of_ble_eq_true rfl) (Nat.le_of_ble_eq_true rfl) (by decide) (by decide) (show (6 : Int32) ≠ 0 by decide) (show exN 6 = "java/lang/ArithmeticException" by decide)
  · have hP : va_P D vwCl (wTS B G M) H := hP.kept (fun k q hq => hkp q.1 (hP k q hq).lt (fun h => h.elim (fun ⟨_, _, h⟩ => by simp at h) (fun h => Nat.lt_irrefl _ (Nat.lt_of_lt_of_le (hP k q hq).lt h))))
    have hV := jF1 hV hk
    cases hV
    exact xOut C hno hk hce hcv hcl (by decide) (by decide) hP hS
