/-! floats: no result is NaN -/
theorem fp_n32 {r : UInt32} (h : r.toNat % 2 ^ 31 < 255 * 2 ^ 23) : vf_n32 r := by
  unfold vf_n32
  rw [UInt32.le_iff_toNat_le, UInt32.toNat_and]
  have e : (0x7fffffff : UInt32).toNat = 2 ^ 31 - 1 := rfl
  have e2 : (0x7f800000 : UInt32).toNat = 255 * 2 ^ 23 := rfl
  rw [e, e2, Nat.and_two_pow_sub_one_eq_mod]
  omega
theorem fp_n64 {r : UInt64} (h : r.toNat % 2 ^ 63 < 2047 * 2 ^ 52) : vf_n64 r := by
  unfold vf_n64
  rw [UInt64.le_iff_toNat_le, UInt64.toNat_and]
  have e : (0x7fffffffffffffff : UInt64).toNat = 2 ^ 63 - 1 := rfl
  have e2 : (0x7ff0000000000000 : UInt64).toNat = 2047 * 2 ^ 52 := rfl
  rw [e, e2, Nat.and_two_pow_sub_one_eq_mod]
  omega
theorem fp_mulm (x y : Int32) : (FP.fmul (FP.i2f x) (FP.i2f y)).toNat % 2 ^ 31 < 194 * 2 ^ 23 := by
  have := FP.Core.fmul_mag (FP.Core.i2f_mag x) (FP.Core.i2f_mag y) (by decide) (by decide)
  exact this
theorem fp_mul (x y : Int32) : vf_n32 (FP.fmul (FP.i2f x) (FP.i2f y)) := fp_n32 (by have := fp_mulm x y; omega)
theorem fp_divm (x y : Int32) : (FP.fdiv (FP.fmul (FP.i2f x) (FP.i2f y)) 1120403456).toNat % 2 ^ 31 < 189 * 2 ^ 23 := by
  have := FP.Core.fdiv_mag (L := 133) (fp_mulm x y) (b := 1120403456) (by decide) (by decide) (by decide) (by decide)
  exact this
theorem fp_div (x y : Int32) : vf_n32 (FP.fdiv (FP.fmul (FP.i2f x) (FP.i2f y)) 1120403456) := fp_n32 (by have := fp_divm x y; omega)
theorem fp_ddivm (x : Int32) {y : Int32} (h : y ≠ 0) : (FP.ddiv (FP.i2d x) (FP.i2d y)).toNat % 2 ^ 63 < 1057 * 2 ^ 52 := by
  have h2 := FP.Core.i2d_big (FP.Core.int32_ne h)
  have := FP.Core.ddiv_mag (FP.Core.i2d_mag x) h2.1 h2.2 (by decide) (by decide)
  exact this
theorem fp_ddiv (x : Int32) {y : Int32} (h : y ≠ 0) : vf_n64 (FP.ddiv (FP.i2d x) (FP.i2d y)) := fp_n64 (by have := fp_ddivm x h; omega)
section FLO
variable {p : Program} {l : Launch} {e : Env} {R : Room} {s : State} {m : MethodId} {args : Array Value} {below : List Frame} {meth : Method} {c : Code} {H : Heap} {locs : List Loc} {cells slots mc ms : Nat} {cc : ByteArray} {nL : Nat} {own : String} {ret : Option FieldType} {D : va_G} {G : Nat → ClassId} {pc : Nat} {ls : Array Slot} {A : Nat → Prop} {w' : va_W} {k : Int32}
theorem mRetF (C : Cx p s m args meth c cc nL own ret D G) (ht : ret = some .float) (hdg : decode cc pc = .ok (.freturn, 1)) {v r : UInt32} (hv : v = r) (hP : va_P D vwCl w' H) (hS : va_S A s.heap H locs) :
    W p l e R s m args below meth c H locs 0 0 (MQ below (mQ D w' (some (.float r)) A) args s 0 0 A) (F0 m pc ls [.float v]) := by
  obtain ⟨hx, hb, hr, -, -, -, hlocks, -⟩ := C
  subst hv; subst ht
  exact W.fret hx hb hr (fun t ht _ => ⟨rfl, by rw [ht]; exact hP, hS.F ht⟩) hS.2.2 hdg hlocks
theorem mRetD (C : Cx p s m args meth c cc nL own ret D G) (ht : ret = some .double) (hdg : decode cc pc = .ok (.dreturn, 1)) {v r : UInt64} (hv : v = r) (hP : va_P D vwCl w' H) (hS : va_S A s.heap H locs) :
    W p l e R s m args below meth c H locs 0 0 (MQ below (mQ D w' (some (.double r)) A) args s 0 0 A) (F0 m pc ls [.double v]) := by
  obtain ⟨hx, hb, hr, -, -, -, hlocks, -⟩ := C
  subst hv; subst ht
  exact W.dret hx hb hr (fun t ht _ => ⟨rfl, by rw [ht]; exact hP, hS.F ht⟩) hS.2.2 hdg hlocks
theorem xRetF (C : Cx p s m args meth c cc nL own ret D G) (ht : ret = some .float) (hdg : decode cc pc = .ok (.freturn, 1)) {v r : UInt32} (hv : v = r) (hk : k = 0) (hc : cells ≤ mc) (hs : slots ≤ ms) (hP : va_P D vwCl w' H) (hS : va_S A s.heap H locs) :
    W p l e R s m args below meth c H locs cells slots (vx_MQ below (xQ D w' k (some (.float r)) A) (xX D w' k A) args s mc ms A) (F0 m pc ls [.float v]) := by
  obtain ⟨hx, hb, hr, -, -, -, hlocks, -⟩ := C
  subst hv; subst ht
  refine vx_ret ?_
  refine W.widen hc hs ?_
  exact W.fret hx hb hr (fun t ht _ => ⟨hk, rfl, by rw [ht]; exact hP, hS.F ht⟩) hS.2.2 hdg hlocks
theorem xRetD (C : Cx p s m args meth c cc nL own ret D G) (ht : ret = some .double) (hdg : decode cc pc = .ok (.dreturn, 1)) {v r : UInt64} (hv : v = r) (hk : k = 0) (hc : cells ≤ mc) (hs : slots ≤ ms) (hP : va_P D vwCl w' H) (hS : va_S A s.heap H locs) :
    W p l e R s m args below meth c H locs cells slots (vx_MQ below (xQ D w' k (some (.double r)) A) (xX D w' k A) args s mc ms A) (F0 m pc ls [.double v]) := by
  obtain ⟨hx, hb, hr, -, -, -, hlocks, -⟩ := C
  subst hv; subst ht
  refine vx_ret ?_
  refine W.widen hc hs ?_
  exact W.dret hx hb hr (fun t ht _ => ⟨hk, rfl, by rw [ht]; exact hP, hS.F ht⟩) hS.2.2 hdg hlocks
end FLO
theorem jy_X9_partner : jY yX9_partner cX9_partner 2 (some .float) 1 := ⟨by decide +kernel, jq_42_0, jq_1_5⟩
def D_X9_partner_14 (N : Nat)  (M : Nat → Nat → Int32) (v1 : Int32) (s0 : Int32) : Option (UInt32 × (Nat → Nat → Int32)) := (jlet (stF M 0 s0) (fun M1 => (if (M1 0 0) = 0 then ((F_X9_takings N M1 v1).bind (fun r2 => ((F_X9_d N M1 v1 (3 : Int32)).bind (fun r3 => (some ((FP.fdiv (FP.fmul (FP.i2f r2) (FP.i2f r3)) (1120403456 : UInt32)), M1)))))) else (some (FP.fconst0, M1)))))
set_option maxHeartbeats 4000000 in
set_option maxRecDepth 100000 in
theorem B_X9_partner_14 {p : Program} {l : Launch} {e : Env} {s : State} {m : MethodId} {args : Array Value} {below : List Frame} {meth : Method} {c : Code} {D : va_G} {G : Nat → ClassId} {A : Nat → Prop} (C : Cx p s m args meth c cX9_partner 2 RX9 (some .float) D G) (hA : ∀ q : Nat, s.heap.size ≤ q → A q) (N : Nat) (a : Nat → Nat) (r : (UInt32 × (Nat → Nat → Int32))) : (∀ (M : Nat → Nat → Int32) (v1 : Int32) (s0 : Int32) (ls : Array Slot) (H : Heap) (locs : List Loc), va_P D vwCl (wM a G M) H → va_D A (wM a G M) → va_S A s.heap H locs → lv_has ls 2 [(0, .ref (a 0)), (1, .int v1)] → D_X9_partner_14 N   M v1 s0 = some r → W p l e ({ frames := 3, cells := 0, slots := 0, locals := 69 } : Room) s m args below meth c H locs 0 0 (MQ below (mQ D (wM a G r.2) (some (.float r.1)) A) args s 0 0 A) (F0 m 14 ls [.int s0, .ref (a 0)])) := by
  have C := C
  obtain ⟨hx, hb, hr, hml, hts, hown, hlocks, hK0⟩ := id C
  have hK := hK0.1
  intro M v1 s0 ls H locs hP hD hS hl hV
  rw [D_X9_partner_14] at hV
  refine va_put (D := D) (ci := 11) (v := .int s0) (ty := .int) (C := RX9) (T := TX9) (N := 16) hx hb hts ju_X9 tyX9 tyX9_ok nmX9 hown hK hP hD hS 0 rfl rfl 0 (by decide) (hts _ jq_15_2) (fun _ h9 => h9) rfl (by decide +kernel) rfl rfl (Nat.le_of_ble_eq_true rfl) dX9_partner_14 (fun H locs hP hD hS => ?_)
  obtain ⟨M1, e5, hV⟩ := jLet hV
  have hP : va_P D vwCl (wM a G M1) H := by rw [e5]; exact hP
  have hD : va_D A (wM a G M1) := by rw [e5]; exact hD
  refine lv_aload_n hx hb dX9_partner_17 rfl (lv_at hl 0 rfl) ?_
  refine va_get (D := D) (ci := 11) (v := .int (M1 0 0)) (C := RX9) (T := TX9) (N := 16) hx hb hts ju_X9 hown hK hP 0 rfl rfl 0 (by decide) (hts _ jq_15_2) (fun _ h9 => h9) rfl dX9_partner_18 ?_
  refine lv_if_ne (tgt := 44) hx hb dX9_partner_21 (by decide) (fun c4 => ?_) (fun c4 => ?_)
  · have hV := jF1 hV c4
    refine lv_fconst0 hx hb dX9_partner_44 ?_
    cases hV
    exact mRetF C rfl dX9_partner_45 rfl hP hS
  · have hV := jT1 hV c4
    refine lv_aload_n hx hb dX9_partner_24 rfl (lv_at hl 0 rfl) ?_
    refine lv_iload_n hx hb dX9_partner_25 rfl (lv_at hl 1 rfl) ?_
    obtain ⟨r2, hr2, hV⟩ := jBind hV
    refine jVpI C dX9_partner_26 (k_X9_takings l D G a N M1 v1 r2 hr2) jy_X9_takings jq_22_9 jq_22_10 jq_22_11 ⟨rfl, rfl, Nat.le_of_ble_eq_true rfl, Nat.le_of_ble_eq_true rfl⟩ ⟨Nat.le_of_ble_eq_true rfl, Nat.le_of_ble_eq_true rfl⟩ hP  (ci := 11) (iw := 0) rfl rfl rfl hl (rest := []) rfl (Nat.le_of_ble_eq_true rfl) ?_
    refine lv_i2f hx hb dX9_partner_29 ?_
    refine lv_aload_n hx hb dX9_partner_30 rfl (lv_at hl 0 rfl) ?_
    refine lv_iload_n hx hb dX9_partner_31 rfl (lv_at hl 1 rfl) ?_
    refine lv_iconst (v := 3) hx hb dX9_partner_32 (by decide) ?_
    obtain ⟨r3, hr3, hV⟩ := jBind hV
    refine jVpI C dX9_partner_33 (k_X9_d l D G a N M1 v1 (3 : Int32) r3 hr3) jy_X9_d jq_17_2 jq_17_3 jq_17_4 ⟨rfl, rfl, Nat.le_of_ble_eq_true rfl, Nat.le_of_ble_eq_true rfl⟩ ⟨Nat.le_of_ble_eq_true rfl, Nat.le_of_ble_eq_true rfl⟩ hP  (ci := 11) (iw := 0) rfl rfl rfl hl (rest := [.float (FP.i2f r2)]) rfl (Nat.le_of_ble_eq_true rfl) ?_
    refine lv_i2f hx hb dX9_partner_36 ?_
    refine lv_fmul hx hb dX9_partner_37 (fp_mul _ _) ?_
    refine lv_ldcf hx hb hown (hts _ jq_42_1) dX9_partner_38 ?_
    refine lv_fdiv hx hb dX9_partner_40 (fp_div _ _) ?_
    refine lv_goto (tgt := 45) hx hb dX9_partner_41 (by decide) ?_
    cases hV
    exact mRetF C rfl dX9_partner_45 rfl hP hS
def F_X9_partner (N : Nat)  (M : Nat → Nat → Int32) (v1 : Int32) : Option (UInt32 × (Nat → Nat → Int32)) := ((F_X9_isProduction N M v1).bind (fun r6 => (if r6 = 0 then (D_X9_partner_14 N   M v1 (1 : Int32)) else (D_X9_partner_14 N   M v1 (0 : Int32)))))
set_option maxHeartbeats 4000000 in
set_option maxRecDepth 100000 in
theorem k_X9_partner (l : Launch) (D : va_G) (G : Nat → ClassId) (a : Nat → Nat) (N : Nat) (M : Nat → Nat → Int32) (v1 : Int32) (r : (UInt32 × (Nat → Nat → Int32))) (hV : F_X9_partner N  M v1 = some r) : mM l yX9_partner (jws yX9_partner cX9_partner 2 (some .float)) ({ frames := 3, cells := 0, slots := 0, locals := 69 } : Room) [.ref (a 0), .int v1] D G (wM a G M) (wM a G r.2) (some (.float r.1)) := by
  refine mM_of (by decide +kernel) (Nat.le_of_ble_eq_true rfl) (fun p e s m args below meth c ls A C hP hD hA hl => ?_)
  have C : Cx p s m args meth c cX9_partner 2 RX9 (some .float) D G := C
  have hS : va_S A s.heap s.heap [] := va_S.rf
  obtain ⟨hx, hb, hr, hml, hts, hown, hlocks, hK0⟩ := id C
  have hK := hK0.1
  have hl : lv_has ls 2 [(0, .ref (a 0)), (1, .int v1)] := hl
  rw [F_X9_partner] at hV
  refine lv_aload_n hx hb dX9_partner_0 rfl (lv_at hl 0 rfl) ?_
  refine lv_aload_n hx hb dX9_partner_1 rfl (lv_at hl 0 rfl) ?_
  refine lv_iload_n hx hb dX9_partner_2 rfl (lv_at hl 1 rfl) ?_
  obtain ⟨r6, hr6, hV⟩ := jBind hV
  refine jVpI C dX9_partner_3 (k_X9_isProduction l D G a N M v1 r6 hr6) jy_X9_isProduction jq_22_1 jq_22_2 jq_22_3 ⟨rfl, rfl, Nat.le_of_ble_eq_true rfl, Nat.le_of_ble_eq_true rfl⟩ ⟨Nat.le_of_ble_eq_true rfl, Nat.le_of_ble_eq_true rfl⟩ hP  (ci := 11) (iw := 0) rfl rfl rfl hl (rest := [.ref (a 0)]) rfl (Nat.le_of_ble_eq_true rfl) ?_
  refine lv_if_eq (tgt := 13) hx hb dX9_partner_6 (by decide) (fun c7 => ?_) (fun c7 => ?_)
  · have hV := jT1 hV c7
    refine lv_iconst (v := 1) hx hb dX9_partner_13 (by decide) ?_
    exact B_X9_partner_14 C hA N a r   M v1 (1 : Int32) _ _ _ hP hD hS (lv_sub hl [0, 1] rfl) hV
  · have hV := jF1 hV c7
    refine lv_iconst (v := 0) hx hb dX9_partner_9 (by decide) ?_
    refine lv_goto (tgt := 14) hx hb dX9_partner_10 (by decide) ?_
    exact B_X9_partner_14 C hA N a r   M v1 (0 : Int32) _ _ _ hP hD hS (lv_sub hl [0, 1] rfl) hV
theorem jy_X8_partner : jY yX8_partner cX8_partner 3 (some .float) 1 := ⟨by decide +kernel, jq_41_19, jq_1_2⟩
def F_X8_partner (N : Nat)  (M : Nat → Nat → Nat → Int32) (v1 : Int32) : Option (Int32 × UInt32 × (Nat → Nat → Nat → Int32)) := ((F_X3_has N (M 0) v1).bind (fun r1 => (if (ckIndex r1) = 0 then ((F_X6_takingsOf N (M 0) v1).bind (fun r4 => (some ((0 : Int32), (FP.fdiv (FP.fmul (FP.i2f r4) (FP.i2f (rg 8 (M 0 5) v1))) (1120403456 : UInt32)), M)))) else (some ((ckIndex r1), (0 : UInt32), M)))))
set_option maxHeartbeats 4000000 in
set_option maxRecDepth 100000 in
theorem k_X8_partner (l : Launch) (hl0 : l.stackTraces = false) (D : va_G) (G : Nat → ClassId) (B : Nat → Nat → Nat) (ks va : Nat → Nat) (N : Nat) (M : Nat → Nat → Nat → Int32) (v1 : Int32) (r : (Int32 × UInt32 × (Nat → Nat → Nat → Int32))) (hV : F_X8_partner N  M v1 = some r) : xM l yX8_partner (jws yX8_partner cX8_partner 3 (some .float)) ({ frames := 8, cells := 1, slots := 6, locals := 120 } : Room) [.ref (B 9 0), .int v1] D G ks va (wTS B G M) (wTS B G r.2.2) r.1 (some (.float r.2.1)) := by
  refine xM_of (by decide +kernel) (Nat.le_of_ble_eq_true rfl) (fun p e s m args below meth c ls A C hno hP hD hA hZ hl => ?_)
  have C : Cx p s m args meth c cX8_partner 3 RX8 (some .float) D G := C
  have hS : va_S A s.heap s.heap [] := va_S.rf
  obtain ⟨hx, hb, hr, hml, hts, hown, hlocks, hK0⟩ := id C
  have hK := hK0.1
  have hl : lv_has ls 3 [(0, .ref (B 9 0)), (1, .int v1)] := hl
  rw [F_X8_partner] at hV
  refine lv_aload_n hx hb dX8_partner_0 rfl (lv_at hl 0 rfl) ?_
  refine va_get (D := D) (ci := 10) (v := .ref (B 0 0)) (C := RX8) (T := TX8) (N := 8) hx hb hts ju_X8 hown hK hP 0 rfl rfl 0 (by decide) (hts _ jq_1_17) (fun _ h9 => h9) rfl dX8_partner_1 ?_
  refine va_getN (D := D) (ci := 8) (v := .ref (B 0 36)) (C := RX6) (T := TX6) (N := 7) (host := "TheatreSeasons") hx hb hts ju_X6 hown hK (sTS_0 hP) 0 rfl rfl 3 (by decide) (va_Nw.use rfl (hK0.2 _ jn_34)) (fun _ h9 => h9) rfl dX8_partner_4 ?_
  refine lv_iload_n hx hb dX8_partner_7 rfl (lv_at hl 1 rfl) ?_
  obtain ⟨r1, hr1, hV⟩ := jBind hV
  refine jVpI C dX8_partner_8 (k_X3_has l D G (B 0) N (M 0) v1 r1 hr1) jy_X3_has jq_20_22 jq_20_23 jq_21_0 ⟨rfl, rfl, Nat.le_of_ble_eq_true rfl, Nat.le_of_ble_eq_true rfl⟩ ⟨Nat.le_of_ble_eq_true rfl, Nat.le_of_ble_eq_true rfl⟩ (sX6_X3 (sTS_0 hP))  (ci := 5) (iw := 0) rfl rfl rfl hl (rest := []) rfl (Nat.le_of_ble_eq_true rfl) ?_
  refine jSx C dX8_partner_11 (kx_X8_checkIndex l hl0 D G ks va r1) jy_X8_checkIndex jq_11_15 jq_11_16 ⟨Nat.le_of_ble_eq_true rfl, Nat.le_of_ble_eq_true rfl⟩ ⟨Nat.le_of_ble_eq_true rfl, Nat.le_of_ble_eq_true rfl⟩ hZ jE (jDnd.mpr ⟨List.nodup_nil, fun q h => nomatch h⟩) hA hS hl (rest := []) rfl (Nat.le_of_ble_eq_true rfl) (fun H locs hQ hz hkp hS => ⟨fun hk => ?_, fun hk ce q hce hcv hcl => ?_⟩)
  · have hP : va_P D vwCl (wTS B G M) H := hP.kept (fun k q hq => hkp q.1 (hP k q hq).lt (fun h => h.elim (fun ⟨_, _, h⟩ => by simp at h) (fun h => Nat.lt_irrefl _ (Nat.lt_of_lt_of_le (hP k q hq).lt h))))
    have hV := jT1 hV hk
    refine W.eq (g2 := F0 m 14 ls []) rfl ?_
    refine lv_aload_n hx hb dX8_partner_14 rfl (lv_at hl 0 rfl) ?_
    refine va_get (D := D) (ci := 10) (v := .ref (B 0 0)) (C := RX8) (T := TX8) (N := 8) hx hb hts ju_X8 hown hK hP 0 rfl rfl 0 (by decide) (hts _ jq_1_17) (fun _ h9 => h9) rfl dX8_partner_15 ?_
    refine va_getN (D := D) (ci := 8) (v := .ref (B 0 36)) (C := RX6) (T := TX6) (N := 7) (host := "TheatreSeasons") hx hb hts ju_X6 hown hK (sTS_0 hP) 0 rfl rfl 3 (by decide) (va_Nw.use rfl (hK0.2 _ jn_34)) (fun _ h9 => h9) rfl dX8_partner_18 ?_
    refine va_getN (D := D) (ci := 5) (v := .ref (B 0 10)) (C := RX3) (T := TX3) (N := 6) (host := "TheatreSeasons") hx hb hts ju_X3 hown hK (sX6_X3 (sTS_0 hP)) 0 rfl rfl 4 (by decide) (va_Nw.use rfl (hK0.2 _ jn_6)) (fun _ h9 => h9) rfl dX8_partner_21 ?_
    refine lv_iload_n hx hb dX8_partner_24 rfl (lv_at hl 1 rfl) ?_
    refine jVpI C dX8_partner_25 (kt_X5_get l D G (B 0 10) (B 0 11) 8 (Nat.le_of_ble_eq_true rfl) (M 0 5) v1) jy_X5_get jq_21_2 jq_9_6 jq_9_7 ⟨rfl, rfl, Nat.le_of_ble_eq_true rfl, Nat.le_of_ble_eq_true rfl⟩ ⟨Nat.le_of_ble_eq_true rfl, Nat.le_of_ble_eq_true rfl⟩ (sX3_5 (sX6_X3 (sTS_0 hP)))  (ci := 7) (iw := 0) rfl rfl rfl hl (rest := []) rfl (Nat.le_of_ble_eq_true rfl) ?_
    refine lv_istore_n (lv' := [(2, .int (rg 8 (M 0 5) v1)), (0, .ref (B 9 0)), (1, .int v1)]) hx hb dX8_partner_28 rfl hl (by decide) rfl (fun ls hl => ?_)
    refine lv_aload_n hx hb dX8_partner_29 rfl (lv_at hl 1 rfl) ?_
    refine va_get (D := D) (ci := 10) (v := .ref (B 0 0)) (C := RX8) (T := TX8) (N := 8) hx hb hts ju_X8 hown hK hP 0 rfl rfl 0 (by decide) (hts _ jq_1_17) (fun _ h9 => h9) rfl dX8_partner_30 ?_
    refine lv_iload_n hx hb dX8_partner_33 rfl (lv_at hl 2 rfl) ?_
    obtain ⟨r4, hr4, hV⟩ := jBind hV
    refine jVpI C dX8_partner_34 (k_X6_takingsOf l D G (B 0) N (M 0) v1 r4 hr4) jy_X6_takingsOf jq_21_17 jq_21_18 jq_21_19 ⟨rfl, rfl, Nat.le_of_ble_eq_true rfl, Nat.le_of_ble_eq_true rfl⟩ ⟨Nat.le_of_ble_eq_true rfl, Nat.le_of_ble_eq_true rfl⟩ (sTS_0 hP)  (ci := 8) (iw := 0) rfl rfl rfl hl (rest := []) rfl (Nat.le_of_ble_eq_true rfl) ?_
    refine lv_i2f hx hb dX8_partner_37 ?_
    refine lv_iload_n hx hb dX8_partner_38 rfl (lv_at hl 0 rfl) ?_
    refine lv_i2f hx hb dX8_partner_39 ?_
    refine lv_fmul hx hb dX8_partner_40 (fp_mul _ _) ?_
    refine lv_ldcf hx hb hown (hts _ jq_41_20) dX8_partner_41 ?_
    refine lv_fdiv hx hb dX8_partner_43 (fp_div _ _) ?_
    cases hV
    exact xRetF C rfl dX8_partner_44 rfl rfl (by decide) (by decide) hP hS
  · have hP : va_P D vwCl (wTS B G M) H := hP.kept (fun k q hq => hkp q.1 (hP k q hq).lt (fun h => h.elim (fun ⟨_, _, h⟩ => by simp at h) (fun h => Nat.lt_irrefl _ (Nat.lt_of_lt_of_le (hP k q hq).lt h))))
    have hV := jF1 hV hk
    cases hV
    exact xOut C hno hk hce hcv hcl (by decide) (by decide) hP hS
theorem jy_X9_fullness : jY yX9_fullness cX9_fullness 5 (some .double) 1 := ⟨by decide +kernel, jq_42_19, jq_1_5⟩
def D_X9_fullness_109 (N : Nat)  (M : Nat → Nat → Int32) (v2 : Int32) (v3 : Int32) (s0 : Int32) : Option (UInt64 × (Nat → Nat → Int32)) := (jlet (stF M 0 s0) (fun M1 => (if (M1 0 0) = 0 then (if decide (v3 ≠ 0) = true then (some ((FP.ddiv (FP.i2d v2) (FP.i2d v3)), M1)) else none) else (some (FP.dconst0, M1)))))
set_option maxHeartbeats 4000000 in
set_option maxRecDepth 100000 in
theorem B_X9_fullness_109 {p : Program} {l : Launch} {e : Env} {s : State} {m : MethodId} {args : Array Value} {below : List Frame} {meth : Method} {c : Code} {D : va_G} {G : Nat → ClassId} {A : Nat → Prop} (C : Cx p s m args meth c cX9_fullness 5 RX9 (some .double) D G) (hA : ∀ q : Nat, s.heap.size ≤ q → A q) (N : Nat) (a : Nat → Nat) (r : (UInt64 × (Nat → Nat → Int32))) : (∀ (M : Nat → Nat → Int32) (v2 : Int32) (v3 : Int32) (s0 : Int32) (ls : Array Slot) (H : Heap) (locs : List Loc), va_P D vwCl (wM a G M) H → va_D A (wM a G M) → va_S A s.heap H locs → lv_has ls 5 [(0, .ref (a 0)), (2, .int v2), (3, .int v3)] → D_X9_fullness_109 N   M v2 v3 s0 = some r → W p l e ({ frames := 2, cells := 0, slots := 0, locals := 45 } : Room) s m args below meth c H locs 0 0 (MQ below (mQ D (wM a G r.2) (some (.double r.1)) A) args s 0 0 A) (F0 m 109 ls [.int s0, .ref (a 0)])) := by
  have C := C
  obtain ⟨hx, hb, hr, hml, hts, hown, hlocks, hK0⟩ := id C
  have hK := hK0.1
  intro M v2 v3 s0 ls H locs hP hD hS hl hV
  rw [D_X9_fullness_109] at hV
  refine va_put (D := D) (ci := 11) (v := .int s0) (ty := .int) (C := RX9) (T := TX9) (N := 16) hx hb hts ju_X9 tyX9 tyX9_ok nmX9 hown hK hP hD hS 0 rfl rfl 0 (by decide) (hts _ jq_15_2) (fun _ h9 => h9) rfl (by decide +kernel) rfl rfl (Nat.le_of_ble_eq_true rfl) dX9_fullness_109 (fun H locs hP hD hS => ?_)
  obtain ⟨M1, e4, hV⟩ := jLet hV
  have hP : va_P D vwCl (wM a G M1) H := by rw [e4]; exact hP
  have hD : va_D A (wM a G M1) := by rw [e4]; exact hD
  refine lv_aload_n hx hb dX9_fullness_112 rfl (lv_at hl 0 rfl) ?_
  refine va_get (D := D) (ci := 11) (v := .int (M1 0 0)) (C := RX9) (T := TX9) (N := 16) hx hb hts ju_X9 hown hK hP 0 rfl rfl 0 (by decide) (hts _ jq_15_2) (fun _ h9 => h9) rfl dX9_fullness_113 ?_
  refine lv_if_ne (tgt := 127) hx hb dX9_fullness_116 (by decide) (fun c3 => ?_) (fun c3 => ?_)
  · have hV := jF1 hV c3
    refine lv_dconst0 hx hb dX9_fullness_127 ?_
    cases hV
    exact mRetD C rfl dX9_fullness_128 rfl hP hS
  · have hV := jT1 hV c3
    refine lv_iload_n hx hb dX9_fullness_119 rfl (lv_at hl 1 rfl) ?_
    refine lv_i2d hx hb dX9_fullness_120 ?_
    refine lv_iload_n hx hb dX9_fullness_121 rfl (lv_at hl 2 rfl) ?_
    refine lv_i2d hx hb dX9_fullness_122 ?_
    obtain ⟨g2, hV⟩ := jIf hV
    refine lv_ddiv hx hb dX9_fullness_123 (fp_ddiv _ (of_decide_eq_true g2)) ?_
    refine lv_goto (tgt := 128) hx hb dX9_fullness_124 (by decide) ?_
    cases hV
    exact mRetD C rfl dX9_fullness_128 rfl hP hS
def D_X9_fullness_33 (N : Nat)  : Nat → (Nat → Nat → Int32) → Int32 → Int32 → Int32 → Int32 → Option (UInt64 × (Nat → Nat → Int32))
  | 0, _, _, _, _, _ => none
  | n + 1, M, v1, v2, v3, v4 => (if inb (38 : Int32) 2169 = true then (if ((M 1) (38 : Int32).toNatClampNeg) ≤ v4 then (if v3 = 0 then (D_X9_fullness_109 N   M v2 v3 (2 : Int32)) else (D_X9_fullness_109 N   M v2 v3 (0 : Int32))) else ((F_X9_p N M v4 (0 : Int32)).bind (fun r7 => (if r7 = v1 then ((F_X9_p N M v4 (3 : Int32)).bind (fun r8 => ((F_X9_heldAt N M v4).bind (fun r9 => ((F_X9_p N M v4 (1 : Int32)).bind (fun r10 => (if inb ((0 : Int32) + r10) 2169 = true then (D_X9_fullness_33 N   n M v1 (v2 + (r8 + r9)) (v3 + ((M 1) ((0 : Int32) + r10).toNatClampNeg)) (v4 + 1)) else none))))))) else (D_X9_fullness_33 N   n M v1 v2 v3 (v4 + 1)))))) else none)
set_option maxHeartbeats 4000000 in
set_option maxRecDepth 100000 in
theorem B_X9_fullness_33 {p : Program} {l : Launch} {e : Env} {s : State} {m : MethodId} {args : Array Value} {below : List Frame} {meth : Method} {c : Code} {D : va_G} {G : Nat → ClassId} {A : Nat → Prop} (C : Cx p s m args meth c cX9_fullness 5 RX9 (some .double) D G) (hA : ∀ q : Nat, s.heap.size ≤ q → A q) (N : Nat) (a : Nat → Nat) (r : (UInt64 × (Nat → Nat → Int32))) : (∀ (n : Nat) (M : Nat → Nat → Int32) (v1 : Int32) (v2 : Int32) (v3 : Int32) (v4 : Int32) (ls : Array Slot) (H : Heap) (locs : List Loc), va_P D vwCl (wM a G M) H → va_D A (wM a G M) → va_S A s.heap H locs → lv_has ls 5 [(0, .ref (a 0)), (1, .int v1), (2, .int v2), (3, .int v3), (4, .int v4)] → D_X9_fullness_33 N   n M v1 v2 v3 v4 = some r → W p l e ({ frames := 2, cells := 0, slots := 0, locals := 45 } : Room) s m args below meth c H locs 0 0 (MQ below (mQ D (wM a G r.2) (some (.double r.1)) A) args s 0 0 A) (F0 m 33 ls [])) := by
  have C := C
  obtain ⟨hx, hb, hr, hml, hts, hown, hlocks, hK0⟩ := id C
  have hK := hK0.1
  intro n
  induction n with
  | zero =>
    intro M v1 v2 v3 v4 ls H locs hP hD hS hl hV
    rw [D_X9_fullness_33] at hV
    cases hV
  | succ n ih =>
    intro M v1 v2 v3 v4 ls H locs hP hD hS hl hV
    rw [D_X9_fullness_33] at hV
    refine lv_iload hx hb dX9_fullness_33 (lv_at hl 4 rfl) ?_
    refine lv_aload_n hx hb dX9_fullness_35 rfl (lv_at hl 0 rfl) ?_
    refine va_get (D := D) (ci := 11) (v := .ref (a 1)) (C := RX9) (T := TX9) (N := 16) hx hb hts ju_X9 hown hK hP 0 rfl rfl 1 (by decide) (hts _ jq_6_1) (fun _ h9 => h9) rfl dX9_fullness_36 ?_
    refine lv_bipush (v := 38) hx hb dX9_fullness_39 (by decide) ?_
    obtain ⟨g5, hV⟩ := jIf hV
    refine va_iald (D := D) (n := 2169) (f := (M 1)) hx hb hK hP 1 0 rfl rfl (inb_of g5) dX9_fullness_41 ?_
    refine lv_icmp_ge (tgt := 99) hx hb dX9_fullness_42 (by decide) (fun c13 => ?_) (fun c13 => ?_)
    · have hV := jT1 hV c13
      refine lv_aload_n hx hb dX9_fullness_99 rfl (lv_at hl 0 rfl) ?_
      refine lv_iload_n hx hb dX9_fullness_100 rfl (lv_at hl 3 rfl) ?_
      refine lv_if_ne (tgt := 108) hx hb dX9_fullness_101 (by decide) (fun c6 => ?_) (fun c6 => ?_)
      · have hV := jF1 hV c6
        refine lv_iconst (v := 0) hx hb dX9_fullness_108 (by decide) ?_
        exact B_X9_fullness_109 C hA N a r   M v2 v3 (0 : Int32) _ _ _ hP hD hS (lv_sub hl [0, 2, 3] rfl) hV
      · have hV := jT1 hV c6
        refine lv_iconst (v := 2) hx hb dX9_fullness_104 (by decide) ?_
        refine lv_goto (tgt := 109) hx hb dX9_fullness_105 (by decide) ?_
        exact B_X9_fullness_109 C hA N a r   M v2 v3 (2 : Int32) _ _ _ hP hD hS (lv_sub hl [0, 2, 3] rfl) hV
    · have hV := jF1 hV c13
      refine lv_aload_n hx hb dX9_fullness_45 rfl (lv_at hl 0 rfl) ?_
      refine lv_iload hx hb dX9_fullness_46 (lv_at hl 4 rfl) ?_
      refine lv_iconst (v := 0) hx hb dX9_fullness_48 (by decide) ?_
      obtain ⟨r7, hr7, hV⟩ := jBind hV
      refine jVpI C dX9_fullness_49 (k_X9_p l D G a N M v4 (0 : Int32) r7 hr7) jy_X9_p jq_13_4 jq_13_5 jq_13_6 ⟨rfl, rfl, Nat.le_of_ble_eq_true rfl, Nat.le_of_ble_eq_true rfl⟩ ⟨Nat.le_of_ble_eq_true rfl, Nat.le_of_ble_eq_true rfl⟩ hP  (ci := 11) (iw := 0) rfl rfl rfl hl (rest := []) rfl (Nat.le_of_ble_eq_true rfl) ?_
      refine lv_iload_n hx hb dX9_fullness_52 rfl (lv_at hl 1 rfl) ?_
      refine lv_icmp_eq (tgt := 59) hx hb dX9_fullness_53 (by decide) (fun c12 => ?_) (fun c12 => ?_)
      · have hV := jT1 hV c12
        refine lv_iload_n hx hb dX9_fullness_59 rfl (lv_at hl 2 rfl) ?_
        refine lv_aload_n hx hb dX9_fullness_60 rfl (lv_at hl 0 rfl) ?_
        refine lv_iload hx hb dX9_fullness_61 (lv_at hl 4 rfl) ?_
        refine lv_iconst (v := 3) hx hb dX9_fullness_63 (by decide) ?_
        obtain ⟨r8, hr8, hV⟩ := jBind hV
        refine jVpI C dX9_fullness_64 (k_X9_p l D G a N M v4 (3 : Int32) r8 hr8) jy_X9_p jq_13_4 jq_13_5 jq_13_6 ⟨rfl, rfl, Nat.le_of_ble_eq_true rfl, Nat.le_of_ble_eq_true rfl⟩ ⟨Nat.le_of_ble_eq_true rfl, Nat.le_of_ble_eq_true rfl⟩ hP  (ci := 11) (iw := 0) rfl rfl rfl hl (rest := [.int v2]) rfl (Nat.le_of_ble_eq_true rfl) ?_
        refine lv_aload_n hx hb dX9_fullness_67 rfl (lv_at hl 0 rfl) ?_
        refine lv_iload hx hb dX9_fullness_68 (lv_at hl 4 rfl) ?_
        obtain ⟨r9, hr9, hV⟩ := jBind hV
        refine jVpI C dX9_fullness_70 (k_X9_heldAt l D G a N M v4 r9 hr9) jy_X9_heldAt jq_13_8 jq_13_9 jq_13_10 ⟨rfl, rfl, Nat.le_of_ble_eq_true rfl, Nat.le_of_ble_eq_true rfl⟩ ⟨Nat.le_of_ble_eq_true rfl, Nat.le_of_ble_eq_true rfl⟩ hP  (ci := 11) (iw := 0) rfl rfl rfl hl (rest := [.int r8, .int v2]) rfl (Nat.le_of_ble_eq_true rfl) ?_
        refine lv_iadd hx hb dX9_fullness_73 ?_
        refine lv_iadd hx hb dX9_fullness_74 ?_
        refine lv_istore_n (lv' := [(2, .int (v2 + (r8 + r9))), (0, .ref (a 0)), (1, .int v1), (3, .int v3), (4, .int v4)]) hx hb dX9_fullness_75 rfl hl (by decide) rfl (fun ls hl => ?_)
        refine lv_iload_n hx hb dX9_fullness_76 rfl (lv_at hl 3 rfl) ?_
        refine lv_aload_n hx hb dX9_fullness_77 rfl (lv_at hl 1 rfl) ?_
        refine va_get (D := D) (ci := 11) (v := .ref (a 1)) (C := RX9) (T := TX9) (N := 16) hx hb hts ju_X9 hown hK hP 0 rfl rfl 1 (by decide) (hts _ jq_6_1) (fun _ h9 => h9) rfl dX9_fullness_78 ?_
        refine lv_iconst (v := 0) hx hb dX9_fullness_81 (by decide) ?_
        refine lv_aload_n hx hb dX9_fullness_82 rfl (lv_at hl 1 rfl) ?_
        refine lv_iload hx hb dX9_fullness_83 (lv_at hl 4 rfl) ?_
        refine lv_iconst (v := 1) hx hb dX9_fullness_85 (by decide) ?_
        obtain ⟨r10, hr10, hV⟩ := jBind hV
        refine jVpI C dX9_fullness_86 (k_X9_p l D G a N M v4 (1 : Int32) r10 hr10) jy_X9_p jq_13_4 jq_13_5 jq_13_6 ⟨rfl, rfl, Nat.le_of_ble_eq_true rfl, Nat.le_of_ble_eq_true rfl⟩ ⟨Nat.le_of_ble_eq_true rfl, Nat.le_of_ble_eq_true rfl⟩ hP  (ci := 11) (iw := 0) rfl rfl rfl hl (rest := [.int (0 : Int32), .ref (a 1), .int v3]) rfl (Nat.le_of_ble_eq_true rfl) ?_
        refine lv_iadd hx hb dX9_fullness_89 ?_
        obtain ⟨g11, hV⟩ := jIf hV
        refine va_iald (D := D) (n := 2169) (f := (M 1)) hx hb hK hP 1 0 rfl rfl (inb_of g11) dX9_fullness_90 ?_
        refine lv_iadd hx hb dX9_fullness_91 ?_
        refine lv_istore_n (lv' := [(3, .int (v3 + ((M 1) ((0 : Int32) + r10).toNatClampNeg))), (2, .int (v2 + (r8 + r9))), (0, .ref (a 0)), (1, .int v1), (4, .int v4)]) hx hb dX9_fullness_92 rfl hl (by decide) rfl (fun ls hl => ?_)
        refine lv_iinc (v := (v4 + 1)) (lv' := [(4, .int (v4 + 1)), (3, .int (v3 + ((M 1) ((0 : Int32) + r10).toNatClampNeg))), (2, .int (v2 + (r8 + r9))), (0, .ref (a 0)), (1, .int v1)]) hx hb dX9_fullness_93 hl (k := 4) rfl rfl (by decide) rfl (fun ls hl => ?_)
        refine lv_goto (tgt := 33) hx hb dX9_fullness_96 (by decide) ?_
        exact ih M v1 (v2 + (r8 + r9)) (v3 + ((M 1) ((0 : Int32) + r10).toNatClampNeg)) (v4 + 1) _ _ _ hP hD hS (lv_sub hl [3, 4, 2, 1, 0] rfl) hV
      · have hV := jF1 hV c12
        refine lv_goto (tgt := 93) hx hb dX9_fullness_56 (by decide) ?_
        refine lv_iinc (v := (v4 + 1)) (lv' := [(4, .int (v4 + 1)), (0, .ref (a 0)), (1, .int v1), (2, .int v2), (3, .int v3)]) hx hb dX9_fullness_93 hl (k := 4) rfl rfl (by decide) rfl (fun ls hl => ?_)
        refine lv_goto (tgt := 33) hx hb dX9_fullness_96 (by decide) ?_
        exact ih M v1 v2 v3 (v4 + 1) _ _ _ hP hD hS (lv_sub hl [1, 2, 3, 4, 0] rfl) hV
def D_X9_fullness_14 (N : Nat)  (M : Nat → Nat → Int32) (v1 : Int32) (s0 : Int32) : Option (UInt64 × (Nat → Nat → Int32)) := (jlet (stF M 0 s0) (fun M14 => (if (M14 0 0) = 0 then (D_X9_fullness_33 N   N M14 v1 (0 : Int32) (0 : Int32) (0 : Int32)) else (some (FP.dconst0, M14)))))
set_option maxHeartbeats 4000000 in
set_option maxRecDepth 100000 in
theorem B_X9_fullness_14 {p : Program} {l : Launch} {e : Env} {s : State} {m : MethodId} {args : Array Value} {below : List Frame} {meth : Method} {c : Code} {D : va_G} {G : Nat → ClassId} {A : Nat → Prop} (C : Cx p s m args meth c cX9_fullness 5 RX9 (some .double) D G) (hA : ∀ q : Nat, s.heap.size ≤ q → A q) (N : Nat) (a : Nat → Nat) (r : (UInt64 × (Nat → Nat → Int32))) : (∀ (M : Nat → Nat → Int32) (v1 : Int32) (s0 : Int32) (ls : Array Slot) (H : Heap) (locs : List Loc), va_P D vwCl (wM a G M) H → va_D A (wM a G M) → va_S A s.heap H locs → lv_has ls 5 [(0, .ref (a 0)), (1, .int v1)] → D_X9_fullness_14 N   M v1 s0 = some r → W p l e ({ frames := 2, cells := 0, slots := 0, locals := 45 } : Room) s m args below meth c H locs 0 0 (MQ below (mQ D (wM a G r.2) (some (.double r.1)) A) args s 0 0 A) (F0 m 14 ls [.int s0, .ref (a 0)])) := by
  have C := C
  obtain ⟨hx, hb, hr, hml, hts, hown, hlocks, hK0⟩ := id C
  have hK := hK0.1
  intro M v1 s0 ls H locs hP hD hS hl hV
  rw [D_X9_fullness_14] at hV
  refine va_put (D := D) (ci := 11) (v := .int s0) (ty := .int) (C := RX9) (T := TX9) (N := 16) hx hb hts ju_X9 tyX9 tyX9_ok nmX9 hown hK hP hD hS 0 rfl rfl 0 (by decide) (hts _ jq_15_2) (fun _ h9 => h9) rfl (by decide +kernel) rfl rfl (Nat.le_of_ble_eq_true rfl) dX9_fullness_14 (fun H locs hP hD hS => ?_)
  obtain ⟨M14, e16, hV⟩ := jLet hV
  have hP : va_P D vwCl (wM a G M14) H := by rw [e16]; exact hP
  have hD : va_D A (wM a G M14) := by rw [e16]; exact hD
  refine lv_aload_n hx hb dX9_fullness_17 rfl (lv_at hl 0 rfl) ?_
  refine va_get (D := D) (ci := 11) (v := .int (M14 0 0)) (C := RX9) (T := TX9) (N := 16) hx hb hts ju_X9 hown hK hP 0 rfl rfl 0 (by decide) (hts _ jq_15_2) (fun _ h9 => h9) rfl dX9_fullness_18 ?_
  refine lv_if_eq (tgt := 26) hx hb dX9_fullness_21 (by decide) (fun c15 => ?_) (fun c15 => ?_)
  · have hV := jT1 hV c15
    refine lv_iconst (v := 0) hx hb dX9_fullness_26 (by decide) ?_
    refine lv_istore_n (lv' := [(2, .int (0 : Int32)), (0, .ref (a 0)), (1, .int v1)]) hx hb dX9_fullness_27 rfl hl (by decide) rfl (fun ls hl => ?_)
    refine lv_iconst (v := 0) hx hb dX9_fullness_28 (by decide) ?_
    refine lv_istore_n (lv' := [(3, .int (0 : Int32)), (2, .int (0 : Int32)), (0, .ref (a 0)), (1, .int v1)]) hx hb dX9_fullness_29 rfl hl (by decide) rfl (fun ls hl => ?_)
    refine lv_iconst (v := 0) hx hb dX9_fullness_30 (by decide) ?_
    refine lv_istore (lv' := [(4, .int (0 : Int32)), (3, .int (0 : Int32)), (2, .int (0 : Int32)), (0, .ref (a 0)), (1, .int v1)]) hx hb dX9_fullness_31 hl (by decide) rfl (fun ls hl => ?_)
    exact B_X9_fullness_33 C hA N a r   N M14 v1 (0 : Int32) (0 : Int32) (0 : Int32) _ _ _ hP hD hS (lv_sub hl [3, 4, 2, 1, 0] rfl) hV
  · have hV := jF1 hV c15
    refine lv_dconst0 hx hb dX9_fullness_24 ?_
    cases hV
    exact mRetD C rfl dX9_fullness_25 rfl hP hS
def F_X9_fullness (N : Nat)  (M : Nat → Nat → Int32) (v1 : Int32) : Option (UInt64 × (Nat → Nat → Int32)) := ((F_X9_isProduction N M v1).bind (fun r17 => (if r17 = 0 then (D_X9_fullness_14 N   M v1 (1 : Int32)) else (D_X9_fullness_14 N   M v1 (0 : Int32)))))
set_option maxHeartbeats 4000000 in
set_option maxRecDepth 100000 in
theorem k_X9_fullness (l : Launch) (D : va_G) (G : Nat → ClassId) (a : Nat → Nat) (N : Nat) (M : Nat → Nat → Int32) (v1 : Int32) (r : (UInt64 × (Nat → Nat → Int32))) (hV : F_X9_fullness N  M v1 = some r) : mM l yX9_fullness (jws yX9_fullness cX9_fullness 5 (some .double)) ({ frames := 2, cells := 0, slots := 0, locals := 45 } : Room) [.ref (a 0), .int v1] D G (wM a G M) (wM a G r.2) (some (.double r.1)) := by
  refine mM_of (by decide +kernel) (Nat.le_of_ble_eq_true rfl) (fun p e s m args below meth c ls A C hP hD hA hl => ?_)
  have C : Cx p s m args meth c cX9_fullness 5 RX9 (some .double) D G := C
  have hS : va_S A s.heap s.heap [] := va_S.rf
  obtain ⟨hx, hb, hr, hml, hts, hown, hlocks, hK0⟩ := id C
  have hK := hK0.1
  have hl : lv_has ls 5 [(0, .ref (a 0)), (1, .int v1)] := hl
  rw [F_X9_fullness] at hV
  refine lv_aload_n hx hb dX9_fullness_0 rfl (lv_at hl 0 rfl) ?_
  refine lv_aload_n hx hb dX9_fullness_1 rfl (lv_at hl 0 rfl) ?_
  refine lv_iload_n hx hb dX9_fullness_2 rfl (lv_at hl 1 rfl) ?_
  obtain ⟨r17, hr17, hV⟩ := jBind hV
  refine jVpI C dX9_fullness_3 (k_X9_isProduction l D G a N M v1 r17 hr17) jy_X9_isProduction jq_22_1 jq_22_2 jq_22_3 ⟨rfl, rfl, Nat.le_of_ble_eq_true rfl, Nat.le_of_ble_eq_true rfl⟩ ⟨Nat.le_of_ble_eq_true rfl, Nat.le_of_ble_eq_true rfl⟩ hP  (ci := 11) (iw := 0) rfl rfl rfl hl (rest := [.ref (a 0)]) rfl (Nat.le_of_ble_eq_true rfl) ?_
  refine lv_if_eq (tgt := 13) hx hb dX9_fullness_6 (by decide) (fun c18 => ?_) (fun c18 => ?_)
  · have hV := jT1 hV c18
    refine lv_iconst (v := 1) hx hb dX9_fullness_13 (by decide) ?_
    exact B_X9_fullness_14 C hA N a r   M v1 (1 : Int32) _ _ _ hP hD hS (lv_sub hl [0, 1] rfl) hV
  · have hV := jF1 hV c18
    refine lv_iconst (v := 0) hx hb dX9_fullness_9 (by decide) ?_
    refine lv_goto (tgt := 14) hx hb dX9_fullness_10 (by decide) ?_
    exact B_X9_fullness_14 C hA N a r   M v1 (0 : Int32) _ _ _ hP hD hS (lv_sub hl [0, 1] rfl) hV
theorem jy_X8_fullness : jY yX8_fullness cX8_fullness 3 (some .double) 1 := ⟨by decide +kernel, jq_42_9, jq_1_2⟩
def F_X8_fullness (N : Nat)  (M : Nat → Nat → Nat → Int32) (v1 : Int32) : Option (Int32 × UInt64 × (Nat → Nat → Nat → Int32)) := ((F_X3_has N (M 0) v1).bind (fun r1 => (if (ckIndex r1) = 0 then ((F_X6_seatsOfProduction N (M 0) v1 (1 : Int32)).bind (fun r3 => (if 0 < r3 then ((F_X6_seatsOfProduction N (M 0) v1 (0 : Int32)).bind (fun r4 => (if decide (r3 ≠ 0) = true then (some ((0 : Int32), (FP.ddiv (FP.i2d r4) (FP.i2d r3)), M)) else none))) else (some ((6 : Int32), (0 : UInt64), M))))) else (some ((ckIndex r1), (0 : UInt64), M)))))
set_option maxHeartbeats 4000000 in
set_option maxRecDepth 100000 in
theorem k_X8_fullness (l : Launch) (hl0 : l.stackTraces = false) (D : va_G) (G : Nat → ClassId) (B : Nat → Nat → Nat) (ks va : Nat → Nat) (N : Nat) (M : Nat → Nat → Nat → Int32) (v1 : Int32) (r : (Int32 × UInt64 × (Nat → Nat → Nat → Int32))) (hV : F_X8_fullness N  M v1 = some r) : xM l yX8_fullness (jws yX8_fullness cX8_fullness 3 (some .double)) ({ frames := 8, cells := 2, slots := 12, locals := 120 } : Room) [.ref (B 9 0), .int v1] D G ks va (wTS B G M) (wTS B G r.2.2) r.1 (some (.double r.2.1)) := by
  refine xM_of (by decide +kernel) (Nat.le_of_ble_eq_true rfl) (fun p e s m args below meth c ls A C hno hP hD hA hZ hl => ?_)
  have C : Cx p s m args meth c cX8_fullness 3 RX8 (some .double) D G := C
  have hS : va_S A s.heap s.heap [] := va_S.rf
  obtain ⟨hx, hb, hr, hml, hts, hown, hlocks, hK0⟩ := id C
  have hK := hK0.1
  have hl : lv_has ls 3 [(0, .ref (B 9 0)), (1, .int v1)] := hl
  rw [F_X8_fullness] at hV
  refine lv_aload_n hx hb dX8_fullness_0 rfl (lv_at hl 0 rfl) ?_
  refine va_get (D := D) (ci := 10) (v := .ref (B 0 0)) (C := RX8) (T := TX8) (N := 8) hx hb hts ju_X8 hown hK hP 0 rfl rfl 0 (by decide) (hts _ jq_1_17) (fun _ h9 => h9) rfl dX8_fullness_1 ?_
  refine va_getN (D := D) (ci := 8) (v := .ref (B 0 36)) (C := RX6) (T := TX6) (N := 7) (host := "TheatreSeasons") hx hb hts ju_X6 hown hK (sTS_0 hP) 0 rfl rfl 3 (by decide) (va_Nw.use rfl (hK0.2 _ jn_34)) (fun _ h9 => h9) rfl dX8_fullness_4 ?_
  refine lv_iload_n hx hb dX8_fullness_7 rfl (lv_at hl 1 rfl) ?_
  obtain ⟨r1, hr1, hV⟩ := jBind hV
  refine jVpI C dX8_fullness_8 (k_X3_has l D G (B 0) N (M 0) v1 r1 hr1) jy_X3_has jq_20_22 jq_20_23 jq_21_0 ⟨rfl, rfl, Nat.le_of_ble_eq_true rfl, Nat.le_of_ble_eq_true rfl⟩ ⟨Nat.le_of_ble_eq_true rfl, Nat.le_of_ble_eq_true rfl⟩ (sX6_X3 (sTS_0 hP))  (ci := 5) (iw := 0) rfl rfl rfl hl (rest := []) rfl (Nat.le_of_ble_eq_true rfl) ?_
  refine jSx C dX8_fullness_11 (kx_X8_checkIndex l hl0 D G ks va r1) jy_X8_checkIndex jq_11_15 jq_11_16 ⟨Nat.le_of_ble_eq_true rfl, Nat.le_of_ble_eq_true rfl⟩ ⟨Nat.le_of_ble_eq_true rfl, Nat.le_of_ble_eq_true rfl⟩ hZ jE (jDnd.mpr ⟨List.nodup_nil, fun q h => nomatch h⟩) hA hS hl (rest := []) rfl (Nat.le_of_ble_eq_true rfl) (fun H locs hQ hz hkp hS => ⟨fun hk => ?_, fun hk ce q hce hcv hcl => ?_⟩)
  · have hP : va_P D vwCl (wTS B G M) H := hP.kept (fun k q hq => hkp q.1 (hP k q hq).lt (fun h => h.elim (fun ⟨_, _, h⟩ => by simp at h) (fun h => Nat.lt_irrefl _ (Nat.lt_of_lt_of_le (hP k q hq).lt h))))
    have hV := jT1 hV hk
    refine W.eq (g2 := F0 m 14 ls []) rfl ?_
    refine lv_aload_n hx hb dX8_fullness_14 rfl (lv_at hl 0 rfl) ?_
    refine va_get (D := D) (ci := 10) (v := .ref (B 0 0)) (C := RX8) (T := TX8) (N := 8) hx hb hts ju_X8 hown hK hP 0 rfl rfl 0 (by decide) (hts _ jq_1_17) (fun _ h9 => h9) rfl dX8_fullness_15 ?_
    refine lv_iload_n hx hb dX8_fullness_18 rfl (lv_at hl 1 rfl) ?_
    refine lv_iconst (v := 1) hx hb dX8_fullness_19 (by decide) ?_
    obtain ⟨r3, hr3, hV⟩ := jBind hV
    refine jVpI C dX8_fullness_20 (k_X6_seatsOfProduction l D G (B 0) N (M 0) v1 (1 : Int32) r3 hr3) jy_X6_seatsOfProduction jq_42_12 jq_42_13 jq_42_14 ⟨rfl, rfl, Nat.le_of_ble_eq_true rfl, Nat.le_of_ble_eq_true rfl⟩ ⟨Nat.le_of_ble_eq_true rfl, Nat.le_of_ble_eq_true rfl⟩ (sTS_0 hP)  (ci := 8) (iw := 0) rfl rfl rfl hl (rest := []) rfl (Nat.le_of_ble_eq_true rfl) ?_
    refine lv_istore_n (lv' := [(2, .int r3), (0, .ref (B 9 0)), (1, .int v1)]) hx hb dX8_fullness_23 rfl hl (by decide) rfl (fun ls hl => ?_)
    refine lv_iload_n hx hb dX8_fullness_24 rfl (lv_at hl 0 rfl) ?_
    refine lv_if_gt (tgt := 38) hx hb dX8_fullness_25 (by decide) (fun c7 => ?_) (fun c7 => ?_)
    · have hV := jT1 hV c7
      refine lv_aload_n hx hb dX8_fullness_38 rfl (lv_at hl 1 rfl) ?_
      refine va_get (D := D) (ci := 10) (v := .ref (B 0 0)) (C := RX8) (T := TX8) (N := 8) hx hb hts ju_X8 hown hK hP 0 rfl rfl 0 (by decide) (hts _ jq_1_17) (fun _ h9 => h9) rfl dX8_fullness_39 ?_
      refine lv_iload_n hx hb dX8_fullness_42 rfl (lv_at hl 2 rfl) ?_
      refine lv_iconst (v := 0) hx hb dX8_fullness_43 (by decide) ?_
      obtain ⟨r4, hr4, hV⟩ := jBind hV
      refine jVpI C dX8_fullness_44 (k_X6_seatsOfProduction l D G (B 0) N (M 0) v1 (0 : Int32) r4 hr4) jy_X6_seatsOfProduction jq_42_12 jq_42_13 jq_42_14 ⟨rfl, rfl, Nat.le_of_ble_eq_true rfl, Nat.le_of_ble_eq_true rfl⟩ ⟨Nat.le_of_ble_eq_true rfl, Nat.le_of_ble_eq_true rfl⟩ (sTS_0 hP)  (ci := 8) (iw := 0) rfl rfl rfl hl (rest := []) rfl (Nat.le_of_ble_eq_true rfl) ?_
      refine lv_i2d hx hb dX8_fullness_47 ?_
      refine lv_iload_n hx hb dX8_fullness_48 rfl (lv_at hl 0 rfl) ?_
      refine lv_i2d hx hb dX8_fullness_49 ?_
      obtain ⟨g5, hV⟩ := jIf hV
      refine lv_ddiv hx hb dX8_fullness_50 (fp_ddiv _ (of_decide_eq_true g5)) ?_
      cases hV
      exact xRetD C rfl dX8_fullness_51 rfl rfl (by decide) (by decide) hP hS
    · have hV := jF1 hV c7
      obtain ⟨sa6, hsa6⟩ := hZ.2.2.2.2.2.2 _ jms_254
      cases hV
      exact xThrow C hno hl0 (by decide) (by decide) jq_42_10 jq_42_11 hsa6 (xat_256 C) xgd_256_252 hZ hS hA hP hl dX8_fullness_28 dX8_fullness_31 dX8_fullness_32 dX8_fullness_34 dX8_fullness_37 (rest := []) (Nat.le_of_ble_eq_true rfl) (Nat.le_of_ble_eq_true rfl) (Nat.le_of_ble_eq_true rfl) (Nat.le_of_ble_eq_true rfl) (by decide) (by decide) (show (6 : Int32) ≠ 0 by decide) (show exN 6 = "java/lang/ArithmeticException" by decide)
  · have hP : va_P D vwCl (wTS B G M) H := hP.kept (fun k q hq => hkp q.1 (hP k q hq).lt (fun h => h.elim (fun ⟨_, _, h⟩ => by simp at h) (fun h => Nat.lt_irrefl _ (Nat.lt_of_lt_of_le (hP k q hq).lt h))))
    have hV := jF1 hV hk
    cases hV
    exact xOut C hno hk hce hcv hcl (by decide) (by decide) hP hS
