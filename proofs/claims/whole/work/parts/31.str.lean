/-- the length of a text -/
def tsl (i : Nat) : Int32 := Int32.ofNat (tsLen.getD i 0)
/-- a sign of a text -/
def tsc (i k : Nat) : Int32 := (tsByt.getD i []).getD k 0
theorem tsl_shr : ∀ i, i < 6 → tsl i >>> ((0 : Int32) &&& 31) = tsl i := by decide +kernel
theorem tsc_and : ∀ i, i < 6 → ∀ k, k < 5 → ((tsc i k &&& 255).toUInt32 % 65536).toInt32 = tsc i k ∧ narrow .char (.int (tsc i k)) = .int (tsc i k) := by decide +kernel
theorem tsLen_5 : ∀ i, i < 6 → tsLen.getD i 0 ≤ 5 := by decide +kernel
theorem jy_J0_isEmpty_aae02 : jY yJ0_isEmpty_aae02 cJ0_isEmpty_aae02 1 (some .boolean) 0 := ⟨by decide +kernel, jq_46_4, jq_46_3⟩
set_option maxHeartbeats 4000000 in
set_option maxRecDepth 100000 in
theorem z_J0_isEmpty_aae02 (l : Launch) (D : va_G) (G : Nat → ClassId) (ks va : Nat → Nat) (A : Nat → Prop) (i : Nat) (hi : i < 6) : zP l yJ0_isEmpty_aae02 (jws yJ0_isEmpty_aae02 cJ0_isEmpty_aae02 1 (some .boolean)) ({ frames := 0, cells := 0, slots := 0, locals := 0 } : Room) [.ref (ks i)] D G ks va A (some (.int (if tsl i = 0 then 1 else 0))) := by
  refine zP_of (by decide +kernel) (Nat.le_of_ble_eq_true rfl) (fun p e s m args below meth c ls C hZ hl => ?_)
  have C : Cx p s m args meth c cJ0_isEmpty_aae02 1 RJ0 (some .boolean) D G := C
  obtain ⟨hx, hb, hr, hml, hts, hown, hlocks, hK0⟩ := id C
  have hS : va_S A s.heap s.heap [] := va_S.rf
  have hl : lv_has ls 1 [(0, .ref (ks i))] := hl
  refine lv_aload_n hx hb dJ0_isEmpty_aae02_0 rfl (lv_at hl 0 rfl) ?_
  refine vk_getf (o := "java/lang/String") (n := "value") (d := "[B") (v := .ref (va i)) hx hb (hZ.1.1 i hi).2.2.1 hS hown (hts _ jq_46_5) (fun _ h9 => h9) dJ0_isEmpty_aae02_1 ?_
  refine va_tlen hx hb (hZ.1.1 i hi).2.2.2 hS (v := tsl i) rfl dJ0_isEmpty_aae02_4 ?_
  refine lv_if_ne (tgt := 12) hx hb dJ0_isEmpty_aae02_5 (by decide) (fun h0 => ?_) (fun h0 => ?_)
  · refine lv_iconst (v := 0) hx hb dJ0_isEmpty_aae02_12 (by decide) ?_
    exact pRet C rfl dJ0_isEmpty_aae02_13 rfl (by rw [if_neg h0])
  · refine lv_iconst (v := 1) hx hb dJ0_isEmpty_aae02_8 (by decide) ?_
    refine lv_goto (tgt := 13) hx hb dJ0_isEmpty_aae02_9 (by decide) ?_
    exact pRet C rfl dJ0_isEmpty_aae02_13 rfl (by rw [if_pos h0])
theorem jy_J0_coder_7d493 : jY yJ0_coder_7d493 cJ0_coder_7d493 1 (some .byte) 0 := ⟨by decide +kernel, jq_46_13, jq_46_3⟩
set_option maxHeartbeats 4000000 in
set_option maxRecDepth 100000 in
theorem z_J0_coder_7d493 (l : Launch) (D : va_G) (G : Nat → ClassId) (ks va : Nat → Nat) (A : Nat → Prop) (i : Nat) (hi : i < 6) : zP l yJ0_coder_7d493 (jws yJ0_coder_7d493 cJ0_coder_7d493 1 (some .byte)) ({ frames := 0, cells := 0, slots := 0, locals := 0 } : Room) [.ref (ks i)] D G ks va A (some (.int (0))) := by
  refine zP_of (by decide +kernel) (Nat.le_of_ble_eq_true rfl) (fun p e s m args below meth c ls C hZ hl => ?_)
  have C : Cx p s m args meth c cJ0_coder_7d493 1 RJ0 (some .byte) D G := C
  obtain ⟨hx, hb, hr, hml, hts, hown, hlocks, hK0⟩ := id C
  have hS : va_S A s.heap s.heap [] := va_S.rf
  have hl : lv_has ls 1 [(0, .ref (ks i))] := hl
  refine va_gets (C := "java/lang/String") (n := "COMPACT_STRINGS") (d := "Z") (v := .int 1) hx hb hZ.2.2.1 hS hown (hts _ jq_46_14) (fun _ h9 => h9) dJ0_coder_7d493_0 ?_
  refine lv_if_eq (tgt := 13) hx hb dJ0_coder_7d493_3 (by decide) (fun h0 => absurd h0 (by decide)) (fun _ => ?_)
  refine lv_aload_n hx hb dJ0_coder_7d493_6 rfl (lv_at hl 0 rfl) ?_
  refine vk_getf (o := "java/lang/String") (n := "coder") (d := "B") (v := .int 0) hx hb (hZ.1.1 i hi).2.1 hS hown (hts _ jq_46_15) (fun _ h9 => h9) dJ0_coder_7d493_7 ?_
  refine lv_goto (tgt := 14) hx hb dJ0_coder_7d493_10 (by decide) ?_
  exact pRet C rfl dJ0_coder_7d493_14 rfl rfl
theorem jy_J0_isLatin1_aae02 : jY yJ0_isLatin1_aae02 cJ0_isLatin1_aae02 1 (some .boolean) 0 := ⟨by decide +kernel, jq_46_23, jq_46_3⟩
set_option maxHeartbeats 4000000 in
set_option maxRecDepth 100000 in
theorem z_J0_isLatin1_aae02 (l : Launch) (D : va_G) (G : Nat → ClassId) (ks va : Nat → Nat) (A : Nat → Prop) (i : Nat) (hi : i < 6) : zP l yJ0_isLatin1_aae02 (jws yJ0_isLatin1_aae02 cJ0_isLatin1_aae02 1 (some .boolean)) ({ frames := 0, cells := 0, slots := 0, locals := 0 } : Room) [.ref (ks i)] D G ks va A (some (.int (1))) := by
  refine zP_of (by decide +kernel) (Nat.le_of_ble_eq_true rfl) (fun p e s m args below meth c ls C hZ hl => ?_)
  have C : Cx p s m args meth c cJ0_isLatin1_aae02 1 RJ0 (some .boolean) D G := C
  obtain ⟨hx, hb, hr, hml, hts, hown, hlocks, hK0⟩ := id C
  have hS : va_S A s.heap s.heap [] := va_S.rf
  have hl : lv_has ls 1 [(0, .ref (ks i))] := hl
  refine va_gets (C := "java/lang/String") (n := "COMPACT_STRINGS") (d := "Z") (v := .int 1) hx hb hZ.2.2.1 hS hown (hts _ jq_46_14) (fun _ h9 => h9) dJ0_isLatin1_aae02_0 ?_
  refine lv_if_eq (tgt := 17) hx hb dJ0_isLatin1_aae02_3 (by decide) (fun h0 => absurd h0 (by decide)) (fun _ => ?_)
  refine lv_aload_n hx hb dJ0_isLatin1_aae02_6 rfl (lv_at hl 0 rfl) ?_
  refine vk_getf (o := "java/lang/String") (n := "coder") (d := "B") (v := .int 0) hx hb (hZ.1.1 i hi).2.1 hS hown (hts _ jq_46_15) (fun _ h9 => h9) dJ0_isLatin1_aae02_7 ?_
  refine lv_if_ne (tgt := 17) hx hb dJ0_isLatin1_aae02_10 (by decide) (fun h0 => absurd rfl h0) (fun _ => ?_)
  refine lv_iconst (v := 1) hx hb dJ0_isLatin1_aae02_13 (by decide) ?_
  refine lv_goto (tgt := 18) hx hb dJ0_isLatin1_aae02_14 (by decide) ?_
  exact pRet C rfl dJ0_isLatin1_aae02_18 rfl rfl
theorem jy_J0_length_8abf5 : jY yJ0_length_8abf5 cJ0_length_8abf5 1 (some .int) 0 := ⟨by decide +kernel, jq_46_9, jq_46_3⟩
set_option maxHeartbeats 4000000 in
set_option maxRecDepth 100000 in
theorem z_J0_length_8abf5 (l : Launch) (D : va_G) (G : Nat → ClassId) (ks va : Nat → Nat) (A : Nat → Prop) (i : Nat) (hi : i < 6) : zP l yJ0_length_8abf5 (jws yJ0_length_8abf5 cJ0_length_8abf5 1 (some .int)) ({ frames := 1, cells := 0, slots := 0, locals := 20 } : Room) [.ref (ks i)] D G ks va A (some (.int (tsl i))) := by
  refine zP_of (by decide +kernel) (Nat.le_of_ble_eq_true rfl) (fun p e s m args below meth c ls C hZ hl => ?_)
  have C : Cx p s m args meth c cJ0_length_8abf5 1 RJ0 (some .int) D G := C
  obtain ⟨hx, hb, hr, hml, hts, hown, hlocks, hK0⟩ := id C
  have hS : va_S A s.heap s.heap [] := va_S.rf
  have hl : lv_has ls 1 [(0, .ref (ks i))] := hl
  refine lv_aload_n hx hb dJ0_length_8abf5_0 rfl (lv_at hl 0 rfl) ?_
  refine vk_getf (o := "java/lang/String") (n := "value") (d := "[B") (v := .ref (va i)) hx hb (hZ.1.1 i hi).2.2.1 hS hown (hts _ jq_46_5) (fun _ h9 => h9) dJ0_length_8abf5_1 ?_
  refine va_tlen hx hb (hZ.1.1 i hi).2.2.2 hS (v := tsl i) rfl dJ0_length_8abf5_4 ?_
  refine lv_aload_n hx hb dJ0_length_8abf5_5 rfl (lv_at hl 0 rfl) ?_
  refine jVzP C dJ0_length_8abf5_6 hi (z_J0_coder_7d493 l D G ks va A i hi) rfl jy_J0_coder_7d493 jq_46_10 jq_46_11 jq_46_12 ⟨rfl, rfl, Nat.le_of_ble_eq_true rfl, Nat.le_of_ble_eq_true rfl⟩ ⟨Nat.zero_le _, Nat.zero_le _⟩ hZ hS hl (rest := [.int (tsl i)]) rfl (Nat.le_of_ble_eq_true rfl) ?_
  refine W.eq (g2 := F0 m 9 ls [.int 0, .int (tsl i)]) rfl ?_
  refine lv_ishr hx hb dJ0_length_8abf5_9 ?_
  rw [tsl_shr i hi]
  exact pRet C rfl dJ0_length_8abf5_10 rfl rfl
theorem jy_J3_checkIndex_8e157 : jY yJ3_checkIndex_8e157 cJ3_checkIndex_8e157 3 (some .int) 3 := ⟨by decide +kernel, jq_47_11, jq_47_10⟩
set_option maxHeartbeats 4000000 in
set_option maxRecDepth 100000 in
theorem z_J3_checkIndex_8e157N (l : Launch) (D : va_G) (G : Nat → ClassId) (ks va : Nat → Nat) (A : Nat → Prop) (x n : Int32) (h0 : ¬ x < 0) (h1 : x < n) : zP l yJ3_checkIndex_8e157 (jws yJ3_checkIndex_8e157 cJ3_checkIndex_8e157 3 (some .int)) ({ frames := 0, cells := 0, slots := 0, locals := 0 } : Room) [.int x, .int n, .null] D G ks va A (some (.int (x))) := by
  refine zP_of (by decide +kernel) (Nat.le_of_ble_eq_true rfl) (fun p e s m args below meth c ls C hZ hl => ?_)
  have C : Cx p s m args meth c cJ3_checkIndex_8e157 3 RJ3 (some .int) D G := C
  obtain ⟨hx, hb, hr, hml, hts, hown, hlocks, hK0⟩ := id C
  have hS : va_S A s.heap s.heap [] := va_S.rf
  have hl : lv_has ls 3 [(0, .int x), (1, .int n), (2, .null)] := hl
  refine lv_iload_n hx hb dJ3_checkIndex_8e157_0 rfl (lv_at hl 0 rfl) ?_
  refine lv_if_lt (tgt := 9) hx hb dJ3_checkIndex_8e157_1 (by decide) (fun h => absurd h h0) (fun _ => ?_)
  refine lv_iload_n hx hb dJ3_checkIndex_8e157_4 rfl (lv_at hl 0 rfl) ?_
  refine lv_iload_n hx hb dJ3_checkIndex_8e157_5 rfl (lv_at hl 1 rfl) ?_
  refine lv_icmp_lt (tgt := 16) hx hb dJ3_checkIndex_8e157_6 (by decide) (fun _ => ?_) (fun h => absurd h1 h)
  refine lv_iload_n hx hb dJ3_checkIndex_8e157_16 rfl (lv_at hl 0 rfl) ?_
  exact pRet C rfl dJ3_checkIndex_8e157_17 rfl rfl
set_option maxHeartbeats 4000000 in
set_option maxRecDepth 100000 in
theorem z_J3_checkIndex_8e157R (l : Launch) (D : va_G) (G : Nat → ClassId) (ks va : Nat → Nat) (A : Nat → Prop) (x n : Int32) (h0 : ¬ x < 0) (h1 : x < n) (f0 : Nat) : zP l yJ3_checkIndex_8e157 (jws yJ3_checkIndex_8e157 cJ3_checkIndex_8e157 3 (some .int)) ({ frames := 0, cells := 0, slots := 0, locals := 0 } : Room) [.int x, .int n, .ref f0] D G ks va A (some (.int (x))) := by
  refine zP_of (by decide +kernel) (Nat.le_of_ble_eq_true rfl) (fun p e s m args below meth c ls C hZ hl => ?_)
  have C : Cx p s m args meth c cJ3_checkIndex_8e157 3 RJ3 (some .int) D G := C
  obtain ⟨hx, hb, hr, hml, hts, hown, hlocks, hK0⟩ := id C
  have hS : va_S A s.heap s.heap [] := va_S.rf
  have hl : lv_has ls 3 [(0, .int x), (1, .int n), (2, .ref f0)] := hl
  refine lv_iload_n hx hb dJ3_checkIndex_8e157_0 rfl (lv_at hl 0 rfl) ?_
  refine lv_if_lt (tgt := 9) hx hb dJ3_checkIndex_8e157_1 (by decide) (fun h => absurd h h0) (fun _ => ?_)
  refine lv_iload_n hx hb dJ3_checkIndex_8e157_4 rfl (lv_at hl 0 rfl) ?_
  refine lv_iload_n hx hb dJ3_checkIndex_8e157_5 rfl (lv_at hl 1 rfl) ?_
  refine lv_icmp_lt (tgt := 16) hx hb dJ3_checkIndex_8e157_6 (by decide) (fun _ => ?_) (fun h => absurd h1 h)
  refine lv_iload_n hx hb dJ3_checkIndex_8e157_16 rfl (lv_at hl 0 rfl) ?_
  exact pRet C rfl dJ3_checkIndex_8e157_17 rfl rfl
theorem jy_J0_checkIndex_df160 : jY yJ0_checkIndex_df160 cJ0_checkIndex_df160 2 none 2 := ⟨by decide +kernel, jq_47_6, jq_46_3⟩
set_option maxHeartbeats 4000000 in
set_option maxRecDepth 100000 in
theorem z_J0_checkIndex_df160 (l : Launch) (D : va_G) (G : Nat → ClassId) (ks va : Nat → Nat) (A : Nat → Prop) (x n : Int32) (h0 : ¬ x < 0) (h1 : x < n) : zP l yJ0_checkIndex_df160 (jws yJ0_checkIndex_df160 cJ0_checkIndex_df160 2 none) ({ frames := 1, cells := 0, slots := 0, locals := 30 } : Room) [.int x, .int n] D G ks va A none := by
  refine zP_of (by decide +kernel) (Nat.le_of_ble_eq_true rfl) (fun p e s m args below meth c ls C hZ hl => ?_)
  have C : Cx p s m args meth c cJ0_checkIndex_df160 2 RJ0 none D G := C
  obtain ⟨hx, hb, hr, hml, hts, hown, hlocks, hK0⟩ := id C
  have hS : va_S A s.heap s.heap [] := va_S.rf
  have hl : lv_has ls 2 [(0, .int x), (1, .int n)] := hl
  refine lv_iload_n hx hb dJ0_checkIndex_df160_0 rfl (lv_at hl 0 rfl) ?_
  refine lv_iload_n hx hb dJ0_checkIndex_df160_1 rfl (lv_at hl 1 rfl) ?_
  rcases hZ.2.1 with hq | ⟨f0, hq⟩
  · refine va_gets (v := .null) hx hb hq hS hown (hts _ jq_47_7) (fun _ h9 => h9) dJ0_checkIndex_df160_2 ?_
    refine jSzP C dJ0_checkIndex_df160_5 (z_J3_checkIndex_8e157N l D G ks va A x n h0 h1) jy_J3_checkIndex_8e157 jq_47_8 jq_47_9 ⟨rfl, rfl, Nat.le_of_ble_eq_true rfl, Nat.le_of_ble_eq_true rfl⟩ ⟨Nat.zero_le _, Nat.zero_le _⟩ hZ hS hl (rest := []) rfl (Nat.le_of_ble_eq_true rfl) ?_
    refine W.eq (g2 := F0 m 8 ls [.int x]) rfl ?_
    refine lv_pop hx hb dJ0_checkIndex_df160_8 rfl ?_
    exact pRetV C dJ0_checkIndex_df160_9
  · refine va_gets (v := .ref f0) hx hb hq hS hown (hts _ jq_47_7) (fun _ h9 => h9) dJ0_checkIndex_df160_2 ?_
    refine jSzP C dJ0_checkIndex_df160_5 (z_J3_checkIndex_8e157R l D G ks va A x n h0 h1 f0) jy_J3_checkIndex_8e157 jq_47_8 jq_47_9 ⟨rfl, rfl, Nat.le_of_ble_eq_true rfl, Nat.le_of_ble_eq_true rfl⟩ ⟨Nat.zero_le _, Nat.zero_le _⟩ hZ hS hl (rest := []) rfl (Nat.le_of_ble_eq_true rfl) ?_
    refine W.eq (g2 := F0 m 8 ls [.int x]) rfl ?_
    refine lv_pop hx hb dJ0_checkIndex_df160_8 rfl ?_
    exact pRetV C dJ0_checkIndex_df160_9
theorem jy_J1_charAt_3b067 : jY yJ1_charAt_3b067 cJ1_charAt_3b067 2 (some .char) 2 := ⟨by decide +kernel, jq_47_3, jq_47_2⟩
set_option maxHeartbeats 4000000 in
set_option maxRecDepth 100000 in
theorem z_J1_charAt_3b067 (l : Launch) (D : va_G) (G : Nat → ClassId) (ks va : Nat → Nat) (A : Nat → Prop) (i : Nat) (hi : i < 6) (k : Nat) (hk : k < tsLen.getD i 0) : zP l yJ1_charAt_3b067 (jws yJ1_charAt_3b067 cJ1_charAt_3b067 2 (some .char)) ({ frames := 2, cells := 0, slots := 0, locals := 60 } : Room) [.ref (va i), .int (nI k)] D G ks va A (some (.int (tsc i k))) := by
  refine zP_of (by decide +kernel) (Nat.le_of_ble_eq_true rfl) (fun p e s m args below meth c ls C hZ hl => ?_)
  have C : Cx p s m args meth c cJ1_charAt_3b067 2 RJ1 (some .char) D G := C
  obtain ⟨hx, hb, hr, hml, hts, hown, hlocks, hK0⟩ := id C
  have hS : va_S A s.heap s.heap [] := va_S.rf
  have hl : lv_has ls 2 [(0, .ref (va i)), (1, .int (nI k))] := hl
  have h5 := tsLen_5 i hi
  refine lv_iload_n hx hb dJ1_charAt_3b067_0 rfl (lv_at hl 1 rfl) ?_
  refine lv_aload_n hx hb dJ1_charAt_3b067_1 rfl (lv_at hl 0 rfl) ?_
  refine va_tlen hx hb (hZ.1.1 i hi).2.2.2 hS (v := tsl i) rfl dJ1_charAt_3b067_2 ?_
  refine jSzP C dJ1_charAt_3b067_3 (z_J0_checkIndex_df160 l D G ks va A (nI k) (tsl i) (nI_pos (by omega)) (nI_lt hk (by omega))) jy_J0_checkIndex_df160 jq_47_4 jq_47_5 ⟨rfl, rfl, Nat.le_of_ble_eq_true rfl, Nat.le_of_ble_eq_true rfl⟩ ⟨Nat.zero_le _, Nat.zero_le _⟩ hZ hS hl (rest := []) rfl (Nat.le_of_ble_eq_true rfl) ?_
  refine W.eq (g2 := F0 m 6 ls []) rfl ?_
  refine lv_aload_n hx hb dJ1_charAt_3b067_6 rfl (lv_at hl 0 rfl) ?_
  refine lv_iload_n hx hb dJ1_charAt_3b067_7 rfl (lv_at hl 1 rfl) ?_
  refine va_tb hx hb (hZ.1.1 i hi).2.2.2 hS (vp_in_nI hk (by omega)) (v := .int (tsc i k)) (by rw [nI_clamp (by omega)]; rfl) dJ1_charAt_3b067_8 ?_
  refine lv_sipush (v := 255) hx hb dJ1_charAt_3b067_9 (by decide) ?_
  refine lv_iand hx hb dJ1_charAt_3b067_12 ?_
  refine lv_i2c hx hb dJ1_charAt_3b067_13 rfl ?_
  rw [(tsc_and i hi k (by omega)).1]
  exact pRet C rfl dJ1_charAt_3b067_14 (tsc_and i hi k (by omega)).2 rfl
theorem jy_J0_charAt_5068e : jY yJ0_charAt_5068e cJ0_charAt_5068e 2 (some .char) 1 := ⟨by decide +kernel, jq_46_19, jq_46_3⟩
set_option maxHeartbeats 4000000 in
set_option maxRecDepth 100000 in
theorem z_J0_charAt_5068e (l : Launch) (D : va_G) (G : Nat → ClassId) (ks va : Nat → Nat) (A : Nat → Prop) (i : Nat) (hi : i < 6) (k : Nat) (hk : k < tsLen.getD i 0) : zP l yJ0_charAt_5068e (jws yJ0_charAt_5068e cJ0_charAt_5068e 2 (some .char)) ({ frames := 3, cells := 0, slots := 0, locals := 90 } : Room) [.ref (ks i), .int (nI k)] D G ks va A (some (.int (tsc i k))) := by
  refine zP_of (by decide +kernel) (Nat.le_of_ble_eq_true rfl) (fun p e s m args below meth c ls C hZ hl => ?_)
  have C : Cx p s m args meth c cJ0_charAt_5068e 2 RJ0 (some .char) D G := C
  obtain ⟨hx, hb, hr, hml, hts, hown, hlocks, hK0⟩ := id C
  have hS : va_S A s.heap s.heap [] := va_S.rf
  have hl : lv_has ls 2 [(0, .ref (ks i)), (1, .int (nI k))] := hl
  have h5 := tsLen_5 i hi
  refine lv_aload_n hx hb dJ0_charAt_5068e_0 rfl (lv_at hl 0 rfl) ?_
  refine jVzP C dJ0_charAt_5068e_1 hi (z_J0_isLatin1_aae02 l D G ks va A i hi) rfl jy_J0_isLatin1_aae02 jq_46_20 jq_46_21 jq_46_22 ⟨rfl, rfl, Nat.le_of_ble_eq_true rfl, Nat.le_of_ble_eq_true rfl⟩ ⟨Nat.zero_le _, Nat.zero_le _⟩ hZ hS hl (rest := []) rfl (Nat.le_of_ble_eq_true rfl) ?_
  refine W.eq (g2 := F0 m 4 ls [.int 1]) rfl ?_
  refine lv_if_eq (tgt := 16) hx hb dJ0_charAt_5068e_4 (by decide) (fun h0 => absurd h0 (by decide)) (fun _ => ?_)
  refine lv_aload_n hx hb dJ0_charAt_5068e_7 rfl (lv_at hl 0 rfl) ?_
  refine vk_getf (o := "java/lang/String") (n := "value") (d := "[B") (v := .ref (va i)) hx hb (hZ.1.1 i hi).2.2.1 hS hown (hts _ jq_46_5) (fun _ h9 => h9) dJ0_charAt_5068e_8 ?_
  refine lv_iload_n hx hb dJ0_charAt_5068e_11 rfl (lv_at hl 1 rfl) ?_
  refine jSzP C dJ0_charAt_5068e_12 (z_J1_charAt_3b067 l D G ks va A i hi k hk) jy_J1_charAt_3b067 jq_47_0 jq_47_1 ⟨rfl, rfl, Nat.le_of_ble_eq_true rfl, Nat.le_of_ble_eq_true rfl⟩ ⟨Nat.zero_le _, Nat.zero_le _⟩ hZ hS hl (rest := []) rfl (Nat.le_of_ble_eq_true rfl) ?_
  refine W.eq (g2 := F0 m 15 ls [.int (tsc i k)]) rfl ?_
  exact pRet C rfl dJ0_charAt_5068e_15 (tsc_and i hi k (by omega)).2 rfl
theorem z_charAt (l : Launch) (D : va_G) (G : Nat → ClassId) (ks va : Nat → Nat) (A : Nat → Prop) (i : Nat) (hi : i < 6) (v : Int32) (hv : inb v (tsLen.getD i 0) = true) : zP l yJ0_charAt_5068e (jws yJ0_charAt_5068e cJ0_charAt_5068e 2 (some .char)) ({ frames := 3, cells := 0, slots := 0, locals := 90 } : Room) [.ref (ks i), .int v] D G ks va A (some (.int (tsc i v.toNatClampNeg))) := by
  have h5 := tsLen_5 i hi
  obtain ⟨j, hj, rfl⟩ := inb_yes hv (by omega)
  rw [nI_clamp (by omega)]
  exact z_J0_charAt_5068e l D G ks va A i hi j hj
