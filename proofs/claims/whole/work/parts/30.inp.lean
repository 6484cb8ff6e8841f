abbrev wInp (a : Nat → Nat) (G : Nat → ClassId) (M : Nat → Nat → Int32) : va_W := (([(a 3, .inr (3, [.ref (a 4), .int (M 0 5), .int (M 0 6), .int (M 0 7), .ref (a 5)]))] : va_W) ++ (([(a 4, .inl (G 1, 60, .inl (M 1)))] : va_W) ++ (wRow (a 5) (a 6) 3 G (M 2) : va_W)))
theorem sX1_2 {D : va_G} {a : Nat → Nat} {G : Nat → ClassId} {M : Nat → Nat → Int32} {H : Heap} (h : va_P D vwCl (wInp a G M) H) : va_P D vwCl (wRow (a 5) (a 6) 3 G (M 2)) H := jMidP (pre := (([(a 3, .inr (3, [.ref (a 4), .int (M 0 5), .int (M 0 6), .int (M 0 7), .ref (a 5)]))] : va_W) ++ ([(a 4, .inl (G 1, 60, .inl (M 1)))] : va_W))) (post := ([] : va_W)) h
theorem dX1_2 {A : Nat → Prop} {a : Nat → Nat} {G : Nat → ClassId} {M : Nat → Nat → Int32} (h : va_D A (wInp a G M)) : va_D A (wRow (a 5) (a 6) 3 G (M 2)) := jMidD (pre := (([(a 3, .inr (3, [.ref (a 4), .int (M 0 5), .int (M 0 6), .int (M 0 7), .ref (a 5)]))] : va_W) ++ ([(a 4, .inl (G 1, 60, .inl (M 1)))] : va_W))) (post := ([] : va_W)) h
theorem jX1_2 {D : va_G} {A : Nat → Prop} {a : Nat → Nat} {G : Nat → ClassId} {M : Nat → Nat → Int32} {z : Nat → Int32} {H H1 : Heap} (hP : va_P D vwCl (wInp a G M) H) (hD : va_D A (wInp a G M)) (hk : ∀ q : Nat, q < H.size → ¬ va_A (wRow (a 5) (a 6) 3 G (M 2)) H.size q → H1[q]? = H[q]?) (h1 : va_P D vwCl (wRow (a 5) (a 6) 3 G z) H1) : va_P D vwCl (wInp a G (u1 M 2 z)) H1 := jMidJoin (pre := (([(a 3, .inr (3, [.ref (a 4), .int (M 0 5), .int (M 0 6), .int (M 0 7), .ref (a 5)]))] : va_W) ++ ([(a 4, .inl (G 1, 60, .inl (M 1)))] : va_W))) (mid := (wRow (a 5) (a 6) 3 G (M 2))) (mid' := (wRow (a 5) (a 6) 3 G z)) (post := ([] : va_W)) hP hD hk h1
theorem jy_X1_isDigit : jY yX1_isDigit cX1_isDigit 1 (some .boolean) 1 := ⟨by decide +kernel, jq_48_11, jq_2_1⟩
def F_X1_isDigit (N : Nat)  (v0 : Int32) : Option Int32 := (if v0 < (48 : Int32) then (some (0 : Int32)) else (if (57 : Int32) < v0 then (some (0 : Int32)) else (some (1 : Int32))))
set_option maxHeartbeats 4000000 in
set_option maxRecDepth 100000 in
theorem k_X1_isDigit (l : Launch) (D : va_G) (G : Nat → ClassId)  (N : Nat) (v0 : Int32) (r : Int32) (hV : F_X1_isDigit N  v0 = some r) : pM l yX1_isDigit (jws yX1_isDigit cX1_isDigit 1 (some .boolean)) ({ frames := 0, cells := 0, slots := 0, locals := 0 } : Room) [.int v0] D G ([] : va_W) (some (.int r)) := by
  refine pM_of (by decide +kernel) (Nat.le_of_ble_eq_true rfl) (fun p e s m args below meth c ls C hP hl => ?_)
  have C : Cx p s m args meth c cX1_isDigit 1 RX1 (some .boolean) D G := C
  obtain ⟨hx, hb, hr, hml, hts, hown, hlocks, hK0⟩ := id C
  have hK := hK0.1
  have hl : lv_has ls 1 [(0, .int v0)] := hl
  rw [F_X1_isDigit] at hV
  refine lv_iload_n hx hb dX1_isDigit_0 rfl (lv_at hl 0 rfl) ?_
  refine lv_bipush (v := 48) hx hb dX1_isDigit_1 (by decide) ?_
  refine lv_icmp_lt (tgt := 16) hx hb dX1_isDigit_3 (by decide) (fun c2 => ?_) (fun c2 => ?_)
  · have hV := jT1 hV c2
    refine lv_iconst (v := 0) hx hb dX1_isDigit_16 (by decide) ?_
    exact pRet C rfl dX1_isDigit_17 rfl (Option.some.inj hV)
  · have hV := jF1 hV c2
    refine lv_iload_n hx hb dX1_isDigit_6 rfl (lv_at hl 0 rfl) ?_
    refine lv_bipush (v := 57) hx hb dX1_isDigit_7 (by decide) ?_
    refine lv_icmp_gt (tgt := 16) hx hb dX1_isDigit_9 (by decide) (fun c1 => ?_) (fun c1 => ?_)
    · have hV := jT1 hV c1
      refine lv_iconst (v := 0) hx hb dX1_isDigit_16 (by decide) ?_
      exact pRet C rfl dX1_isDigit_17 rfl (Option.some.inj hV)
    · have hV := jF1 hV c1
      refine lv_iconst (v := 1) hx hb dX1_isDigit_12 (by decide) ?_
      refine lv_goto (tgt := 17) hx hb dX1_isDigit_13 (by decide) ?_
      exact pRet C rfl dX1_isDigit_17 rfl (Option.some.inj hV)
theorem jy_X1_add : jY yX1_add cX1_add 2 (some .boolean) 1 := ⟨by decide +kernel, jq_44_14, jq_2_1⟩
def F_X1_add (N : Nat)  (M : Nat → Nat → Int32) (v1 : Int32) : Option (Int32 × (Nat → Nat → Int32)) := (if (M 0 5) < 0 then (some ((0 : Int32), M)) else (if (M 0 5) < (Int32.ofNat 60) then (if inb (M 0 5) 60 = true then (jlet (stA M 1 (M 0 5) (vp_nar .char v1)) (fun M2 => (jlet (stF M2 5 ((M2 0 5) + (1 : Int32))) (fun M3 => (some ((1 : Int32), M3)))))) else none) else (some ((0 : Int32), M))))
set_option maxHeartbeats 4000000 in
set_option maxRecDepth 100000 in
theorem k_X1_add (l : Launch) (D : va_G) (G : Nat → ClassId) (a : Nat → Nat) (N : Nat) (M : Nat → Nat → Int32) (v1 : Int32) (r : (Int32 × (Nat → Nat → Int32))) (hV : F_X1_add N  M v1 = some r) : mM l yX1_add (jws yX1_add cX1_add 2 (some .boolean)) ({ frames := 0, cells := 0, slots := 0, locals := 0 } : Room) [.ref (a 3), .int v1] D G (wInp a G M) (wInp a G r.2) (some (.int r.1)) := by
  refine mM_of (by decide +kernel) (Nat.le_of_ble_eq_true rfl) (fun p e s m args below meth c ls A C hP hD hA hl => ?_)
  have C : Cx p s m args meth c cX1_add 2 RX1 (some .boolean) D G := C
  have hS : va_S A s.heap s.heap [] := va_S.rf
  obtain ⟨hx, hb, hr, hml, hts, hown, hlocks, hK0⟩ := id C
  have hK := hK0.1
  have hl : lv_has ls 2 [(0, .ref (a 3)), (1, .int v1)] := hl
  rw [F_X1_add] at hV
  refine lv_aload_n hx hb dX1_add_0 rfl (lv_at hl 0 rfl) ?_
  refine va_get (D := D) (ci := 3) (v := .int (M 0 5)) (C := RX1) (T := TX1) (N := 5) hx hb hts ju_X1 hown hK hP 0 rfl rfl 1 (by decide) (hts _ jq_44_15) (fun _ h9 => h9) rfl dX1_add_1 ?_
  refine lv_if_lt (tgt := 19) hx hb dX1_add_4 (by decide) (fun c7 => ?_) (fun c7 => ?_)
  · have hV := jT1 hV c7
    refine lv_iconst (v := 0) hx hb dX1_add_19 (by decide) ?_
    cases hV
    exact mRet C rfl dX1_add_20 rfl rfl hP hS
  · have hV := jF1 hV c7
    refine lv_aload_n hx hb dX1_add_7 rfl (lv_at hl 0 rfl) ?_
    refine va_get (D := D) (ci := 3) (v := .int (M 0 5)) (C := RX1) (T := TX1) (N := 5) hx hb hts ju_X1 hown hK hP 0 rfl rfl 1 (by decide) (hts _ jq_44_15) (fun _ h9 => h9) rfl dX1_add_8 ?_
    refine lv_aload_n hx hb dX1_add_11 rfl (lv_at hl 0 rfl) ?_
    refine va_get (D := D) (ci := 3) (v := .ref (a 4)) (C := RX1) (T := TX1) (N := 5) hx hb hts ju_X1 hown hK hP 0 rfl rfl 0 (by decide) (hts _ jq_5_17) (fun _ h9 => h9) rfl dX1_add_12 ?_
    refine va_alen (D := D) hx hb hK hP 1 1 rfl rfl (v := (Int32.ofNat 60)) rfl dX1_add_15 ?_
    refine lv_icmp_lt (tgt := 21) hx hb dX1_add_16 (by decide) (fun c6 => ?_) (fun c6 => ?_)
    · have hV := jT1 hV c6
      refine lv_aload_n hx hb dX1_add_21 rfl (lv_at hl 0 rfl) ?_
      refine va_get (D := D) (ci := 3) (v := .ref (a 4)) (C := RX1) (T := TX1) (N := 5) hx hb hts ju_X1 hown hK hP 0 rfl rfl 0 (by decide) (hts _ jq_5_17) (fun _ h9 => h9) rfl dX1_add_22 ?_
      refine lv_aload_n hx hb dX1_add_25 rfl (lv_at hl 0 rfl) ?_
      refine va_get (D := D) (ci := 3) (v := .int (M 0 5)) (C := RX1) (T := TX1) (N := 5) hx hb hts ju_X1 hown hK hP 0 rfl rfl 1 (by decide) (hts _ jq_44_15) (fun _ h9 => h9) rfl dX1_add_26 ?_
      refine lv_iload_n hx hb dX1_add_29 rfl (lv_at hl 1 rfl) ?_
      obtain ⟨g1, hV⟩ := jIf hV
      refine va_cast (D := D) (n := 60) (f := (M 1)) hx hb hK hP hD hS 1 1 rfl rfl (inb_of g1) dX1_add_30 (fun H locs hP hD hS => ?_)
      obtain ⟨M2, e5, hV⟩ := jLet hV
      have hP : va_P D vwCl (wInp a G M2) H := by rw [e5]; exact hP
      have hD : va_D A (wInp a G M2) := by rw [e5]; exact hD
      refine lv_aload_n hx hb dX1_add_31 rfl (lv_at hl 0 rfl) ?_
      refine lv_dup hx hb dX1_add_32 rfl ?_
      refine va_get (D := D) (ci := 3) (v := .int (M2 0 5)) (C := RX1) (T := TX1) (N := 5) hx hb hts ju_X1 hown hK hP 0 rfl rfl 1 (by decide) (hts _ jq_44_15) (fun _ h9 => h9) rfl dX1_add_33 ?_
      refine lv_iconst (v := 1) hx hb dX1_add_36 (by decide) ?_
      refine lv_iadd hx hb dX1_add_37 ?_
      refine va_put (D := D) (ci := 3) (v := .int ((M2 0 5) + (1 : Int32))) (ty := .int) (C := RX1) (T := TX1) (N := 5) hx hb hts ju_X1 tyX1 tyX1_ok nmX1 hown hK hP hD hS 0 rfl rfl 1 (by decide) (hts _ jq_44_15) (fun _ h9 => h9) rfl (by decide +kernel) rfl rfl (Nat.le_of_ble_eq_true rfl) dX1_add_38 (fun H locs hP hD hS => ?_)
      obtain ⟨M3, e4, hV⟩ := jLet hV
      have hP : va_P D vwCl (wInp a G M3) H := by rw [e4]; exact hP
      have hD : va_D A (wInp a G M3) := by rw [e4]; exact hD
      refine lv_iconst (v := 1) hx hb dX1_add_41 (by decide) ?_
      cases hV
      exact mRet C rfl dX1_add_42 rfl rfl hP hS
    · have hV := jF1 hV c6
      refine lv_iconst (v := 0) hx hb dX1_add_19 (by decide) ?_
      cases hV
      exact mRet C rfl dX1_add_20 rfl rfl hP hS
theorem jy_X1_clear : jY yX1_clear cX1_clear 1 none 0 := ⟨by decide +kernel, jq_48_20, jq_2_1⟩
def F_X1_clear (N : Nat)  (M : Nat → Nat → Int32) : Option (Nat → Nat → Int32) := (jlet (stF M 5 (0 : Int32)) (fun M1 => (some M1)))
set_option maxHeartbeats 4000000 in
set_option maxRecDepth 100000 in
theorem k_X1_clear (l : Launch) (D : va_G) (G : Nat → ClassId) (a : Nat → Nat) (N : Nat) (M : Nat → Nat → Int32) (r : (Nat → Nat → Int32)) (hV : F_X1_clear N  M  = some r) : mM l yX1_clear (jws yX1_clear cX1_clear 1 none) ({ frames := 0, cells := 0, slots := 0, locals := 0 } : Room) [.ref (a 3)] D G (wInp a G M) (wInp a G r) none := by
  refine mM_of (by decide +kernel) (Nat.le_of_ble_eq_true rfl) (fun p e s m args below meth c ls A C hP hD hA hl => ?_)
  have C : Cx p s m args meth c cX1_clear 1 RX1 none D G := C
  have hS : va_S A s.heap s.heap [] := va_S.rf
  obtain ⟨hx, hb, hr, hml, hts, hown, hlocks, hK0⟩ := id C
  have hK := hK0.1
  have hl : lv_has ls 1 [(0, .ref (a 3))] := hl
  rw [F_X1_clear] at hV
  refine lv_aload_n hx hb dX1_clear_0 rfl (lv_at hl 0 rfl) ?_
  refine lv_iconst (v := 0) hx hb dX1_clear_1 (by decide) ?_
  refine va_put (D := D) (ci := 3) (v := .int (0 : Int32)) (ty := .int) (C := RX1) (T := TX1) (N := 5) hx hb hts ju_X1 tyX1 tyX1_ok nmX1 hown hK hP hD hS 0 rfl rfl 1 (by decide) (hts _ jq_44_15) (fun _ h9 => h9) rfl (by decide +kernel) rfl rfl (Nat.le_of_ble_eq_true rfl) dX1_clear_2 (fun H locs hP hD hS => ?_)
  obtain ⟨M1, e2, hV⟩ := jLet hV
  have hP : va_P D vwCl (wInp a G M1) H := by rw [e2]; exact hP
  have hD : va_D A (wInp a G M1) := by rw [e2]; exact hD
  cases hV
  exact mRetV C dX1_clear_5 hP hS
theorem jy_X1_goToStart : jY yX1_goToStart cX1_goToStart 1 none 0 := ⟨by decide +kernel, jq_45_11, jq_2_1⟩
def F_X1_goToStart (N : Nat)  (M : Nat → Nat → Int32) : Option (Nat → Nat → Int32) := (jlet (stF M 6 (0 : Int32)) (fun M1 => (some M1)))
set_option maxHeartbeats 4000000 in
set_option maxRecDepth 100000 in
theorem k_X1_goToStart (l : Launch) (D : va_G) (G : Nat → ClassId) (a : Nat → Nat) (N : Nat) (M : Nat → Nat → Int32) (r : (Nat → Nat → Int32)) (hV : F_X1_goToStart N  M  = some r) : mM l yX1_goToStart (jws yX1_goToStart cX1_goToStart 1 none) ({ frames := 0, cells := 0, slots := 0, locals := 0 } : Room) [.ref (a 3)] D G (wInp a G M) (wInp a G r) none := by
  refine mM_of (by decide +kernel) (Nat.le_of_ble_eq_true rfl) (fun p e s m args below meth c ls A C hP hD hA hl => ?_)
  have C : Cx p s m args meth c cX1_goToStart 1 RX1 none D G := C
  have hS : va_S A s.heap s.heap [] := va_S.rf
  obtain ⟨hx, hb, hr, hml, hts, hown, hlocks, hK0⟩ := id C
  have hK := hK0.1
  have hl : lv_has ls 1 [(0, .ref (a 3))] := hl
  rw [F_X1_goToStart] at hV
  refine lv_aload_n hx hb dX1_goToStart_0 rfl (lv_at hl 0 rfl) ?_
  refine lv_iconst (v := 0) hx hb dX1_goToStart_1 (by decide) ?_
  refine va_put (D := D) (ci := 3) (v := .int (0 : Int32)) (ty := .int) (C := RX1) (T := TX1) (N := 5) hx hb hts ju_X1 tyX1 tyX1_ok nmX1 hown hK hP hD hS 0 rfl rfl 2 (by decide) (hts _ jq_45_7) (fun _ h9 => h9) rfl (by decide +kernel) rfl rfl (Nat.le_of_ble_eq_true rfl) dX1_goToStart_2 (fun H locs hP hD hS => ?_)
  obtain ⟨M1, e2, hV⟩ := jLet hV
  have hP : va_P D vwCl (wInp a G M1) H := by rw [e2]; exact hP
  have hD : va_D A (wInp a G M1) := by rw [e2]; exact hD
  cases hV
  exact mRetV C dX1_goToStart_5 hP hS
theorem jy_X1_signHere : jY yX1_signHere cX1_signHere 2 (some .char) 0 := ⟨by decide +kernel, jq_45_20, jq_2_1⟩
def D_X1_signHere_35 (N : Nat)  (M : Nat → Nat → Int32) (s0 : Int32) : Option Int32 := (if s0 = 0 then (if isC (0 : Int32) = true then (some (0 : Int32)) else none) else (if inb (M 0 6) 60 = true then (if isC ((M 1) (M 0 6).toNatClampNeg) = true then (some ((M 1) (M 0 6).toNatClampNeg)) else none) else none))
set_option maxHeartbeats 4000000 in
set_option maxRecDepth 100000 in
theorem B_X1_signHere_35 {p : Program} {l : Launch} {e : Env} {s : State} {m : MethodId} {args : Array Value} {below : List Frame} {meth : Method} {c : Code} {D : va_G} {G : Nat → ClassId} (C : Cx p s m args meth c cX1_signHere 2 RX1 (some .char) D G) (N : Nat) (a : Nat → Nat) (M : Nat → Nat → Int32) (r : Int32) (hP : va_P D vwCl (wInp a G M) s.heap) : (∀ (s0 : Int32) (ls : Array Slot), lv_has ls 2 [(0, .ref (a 3))] → D_X1_signHere_35 N  M  s0 = some r → W p l e ({ frames := 0, cells := 0, slots := 0, locals := 0 } : Room) s m args below meth c s.heap [] 0 0 (MQ below (QcRd (some (.int r))) args s 0 0 nofree) (F0 m 35 ls [.int s0])) := by
  have C := C
  obtain ⟨hx, hb, hr, hml, hts, hown, hlocks, hK0⟩ := id C
  have hK := hK0.1
  intro s0 ls hl hV
  rw [D_X1_signHere_35] at hV
  refine lv_istore_n (lv' := [(1, .int s0), (0, .ref (a 3))]) hx hb dX1_signHere_35 rfl hl (by decide) rfl (fun ls hl => ?_)
  refine lv_iload_n hx hb dX1_signHere_36 rfl (lv_at hl 0 rfl) ?_
  refine lv_if_eq (tgt := 52) hx hb dX1_signHere_37 (by decide) (fun c4 => ?_) (fun c4 => ?_)
  · have hV := jT1 hV c4
    refine lv_iconst (v := 0) hx hb dX1_signHere_52 (by decide) ?_
    obtain ⟨g1, hV⟩ := jIf hV
    exact pRet C rfl dX1_signHere_53 (isC_n g1) (Option.some.inj hV)
  · have hV := jF1 hV c4
    refine lv_aload_n hx hb dX1_signHere_40 rfl (lv_at hl 1 rfl) ?_
    refine va_get (D := D) (ci := 3) (v := .ref (a 4)) (C := RX1) (T := TX1) (N := 5) hx hb hts ju_X1 hown hK hP 0 rfl rfl 0 (by decide) (hts _ jq_5_17) (fun _ h9 => h9) rfl dX1_signHere_41 ?_
    refine lv_aload_n hx hb dX1_signHere_44 rfl (lv_at hl 1 rfl) ?_
    refine va_get (D := D) (ci := 3) (v := .int (M 0 6)) (C := RX1) (T := TX1) (N := 5) hx hb hts ju_X1 hown hK hP 0 rfl rfl 2 (by decide) (hts _ jq_45_7) (fun _ h9 => h9) rfl dX1_signHere_45 ?_
    obtain ⟨g2, hV⟩ := jIf hV
    refine va_cald (D := D) (n := 60) (f := (M 1)) hx hb hK hP 1 1 rfl rfl (inb_of g2) dX1_signHere_48 ?_
    refine lv_goto (tgt := 53) hx hb dX1_signHere_49 (by decide) ?_
    obtain ⟨g3, hV⟩ := jIf hV
    exact pRet C rfl dX1_signHere_53 (isC_n g3) (Option.some.inj hV)
def F_X1_signHere (N : Nat)  (M : Nat → Nat → Int32) : Option Int32 := (if (M 0 6) < 0 then (D_X1_signHere_35 N  M   (0 : Int32)) else (if (M 0 5) ≤ (M 0 6) then (D_X1_signHere_35 N  M   (0 : Int32)) else (if (Int32.ofNat 60) ≤ (M 0 6) then (D_X1_signHere_35 N  M   (0 : Int32)) else (D_X1_signHere_35 N  M   (1 : Int32)))))
set_option maxHeartbeats 4000000 in
set_option maxRecDepth 100000 in
theorem k_X1_signHere (l : Launch) (D : va_G) (G : Nat → ClassId) (a : Nat → Nat) (N : Nat) (M : Nat → Nat → Int32) (r : Int32) (hV : F_X1_signHere N  M  = some r) : pM l yX1_signHere (jws yX1_signHere cX1_signHere 2 (some .char)) ({ frames := 0, cells := 0, slots := 0, locals := 0 } : Room) [.ref (a 3)] D G (wInp a G M) (some (.int r)) := by
  refine pM_of (by decide +kernel) (Nat.le_of_ble_eq_true rfl) (fun p e s m args below meth c ls C hP hl => ?_)
  have C : Cx p s m args meth c cX1_signHere 2 RX1 (some .char) D G := C
  obtain ⟨hx, hb, hr, hml, hts, hown, hlocks, hK0⟩ := id C
  have hK := hK0.1
  have hl : lv_has ls 2 [(0, .ref (a 3))] := hl
  rw [F_X1_signHere] at hV
  refine lv_aload_n hx hb dX1_signHere_0 rfl (lv_at hl 0 rfl) ?_
  refine va_get (D := D) (ci := 3) (v := .int (M 0 6)) (C := RX1) (T := TX1) (N := 5) hx hb hts ju_X1 hown hK hP 0 rfl rfl 2 (by decide) (hts _ jq_45_7) (fun _ h9 => h9) rfl dX1_signHere_1 ?_
  refine lv_if_lt (tgt := 34) hx hb dX1_signHere_4 (by decide) (fun c7 => ?_) (fun c7 => ?_)
  · have hV := jT1 hV c7
    refine lv_iconst (v := 0) hx hb dX1_signHere_34 (by decide) ?_
    exact B_X1_signHere_35 C  N a M r hP    (0 : Int32) _ (lv_sub hl [0] rfl) hV
  · have hV := jF1 hV c7
    refine lv_aload_n hx hb dX1_signHere_7 rfl (lv_at hl 0 rfl) ?_
    refine va_get (D := D) (ci := 3) (v := .int (M 0 6)) (C := RX1) (T := TX1) (N := 5) hx hb hts ju_X1 hown hK hP 0 rfl rfl 2 (by decide) (hts _ jq_45_7) (fun _ h9 => h9) rfl dX1_signHere_8 ?_
    refine lv_aload_n hx hb dX1_signHere_11 rfl (lv_at hl 0 rfl) ?_
    refine va_get (D := D) (ci := 3) (v := .int (M 0 5)) (C := RX1) (T := TX1) (N := 5) hx hb hts ju_X1 hown hK hP 0 rfl rfl 1 (by decide) (hts _ jq_44_15) (fun _ h9 => h9) rfl dX1_signHere_12 ?_
    refine lv_icmp_ge (tgt := 34) hx hb dX1_signHere_15 (by decide) (fun c6 => ?_) (fun c6 => ?_)
    · have hV := jT1 hV c6
      refine lv_iconst (v := 0) hx hb dX1_signHere_34 (by decide) ?_
      exact B_X1_signHere_35 C  N a M r hP    (0 : Int32) _ (lv_sub hl [0] rfl) hV
    · have hV := jF1 hV c6
      refine lv_aload_n hx hb dX1_signHere_18 rfl (lv_at hl 0 rfl) ?_
      refine va_get (D := D) (ci := 3) (v := .int (M 0 6)) (C := RX1) (T := TX1) (N := 5) hx hb hts ju_X1 hown hK hP 0 rfl rfl 2 (by decide) (hts _ jq_45_7) (fun _ h9 => h9) rfl dX1_signHere_19 ?_
      refine lv_aload_n hx hb dX1_signHere_22 rfl (lv_at hl 0 rfl) ?_
      refine va_get (D := D) (ci := 3) (v := .ref (a 4)) (C := RX1) (T := TX1) (N := 5) hx hb hts ju_X1 hown hK hP 0 rfl rfl 0 (by decide) (hts _ jq_5_17) (fun _ h9 => h9) rfl dX1_signHere_23 ?_
      refine va_alen (D := D) hx hb hK hP 1 1 rfl rfl (v := (Int32.ofNat 60)) rfl dX1_signHere_26 ?_
      refine lv_icmp_ge (tgt := 34) hx hb dX1_signHere_27 (by decide) (fun c5 => ?_) (fun c5 => ?_)
      · have hV := jT1 hV c5
        refine lv_iconst (v := 0) hx hb dX1_signHere_34 (by decide) ?_
        exact B_X1_signHere_35 C  N a M r hP    (0 : Int32) _ (lv_sub hl [0] rfl) hV
      · have hV := jF1 hV c5
        refine lv_iconst (v := 1) hx hb dX1_signHere_30 (by decide) ?_
        refine lv_goto (tgt := 35) hx hb dX1_signHere_31 (by decide) ?_
        exact B_X1_signHere_35 C  N a M r hP    (1 : Int32) _ (lv_sub hl [0] rfl) hV
theorem jy_X1_takeSign : jY yX1_takeSign cX1_takeSign 2 (some .boolean) 1 := ⟨by decide +kernel, jq_48_16, jq_2_1⟩
def F_X1_takeSign (N : Nat)  (M : Nat → Nat → Int32) (v1 : Int32) : Option (Int32 × (Nat → Nat → Int32)) := ((F_X1_signHere N M ).bind (fun r1 => (if r1 = v1 then (jlet (stF M 6 ((M 0 6) + (1 : Int32))) (fun M2 => (some ((1 : Int32), M2)))) else (some ((0 : Int32), M)))))
set_option maxHeartbeats 4000000 in
set_option maxRecDepth 100000 in
theorem k_X1_takeSign (l : Launch) (D : va_G) (G : Nat → ClassId) (a : Nat → Nat) (N : Nat) (M : Nat → Nat → Int32) (v1 : Int32) (r : (Int32 × (Nat → Nat → Int32))) (hV : F_X1_takeSign N  M v1 = some r) : mM l yX1_takeSign (jws yX1_takeSign cX1_takeSign 2 (some .boolean)) ({ frames := 1, cells := 0, slots := 0, locals := 21 } : Room) [.ref (a 3), .int v1] D G (wInp a G M) (wInp a G r.2) (some (.int r.1)) := by
  refine mM_of (by decide +kernel) (Nat.le_of_ble_eq_true rfl) (fun p e s m args below meth c ls A C hP hD hA hl => ?_)
  have C : Cx p s m args meth c cX1_takeSign 2 RX1 (some .boolean) D G := C
  have hS : va_S A s.heap s.heap [] := va_S.rf
  obtain ⟨hx, hb, hr, hml, hts, hown, hlocks, hK0⟩ := id C
  have hK := hK0.1
  have hl : lv_has ls 2 [(0, .ref (a 3)), (1, .int v1)] := hl
  rw [F_X1_takeSign] at hV
  refine lv_aload_n hx hb dX1_takeSign_0 rfl (lv_at hl 0 rfl) ?_
  obtain ⟨r1, hr1, hV⟩ := jBind hV
  refine jVpI C dX1_takeSign_1 (k_X1_signHere l D G a N M  r1 hr1) jy_X1_signHere jq_45_17 jq_45_18 jq_45_19 ⟨rfl, rfl, Nat.le_of_ble_eq_true rfl, Nat.le_of_ble_eq_true rfl⟩ ⟨Nat.le_of_ble_eq_true rfl, Nat.le_of_ble_eq_true rfl⟩ hP  (ci := 3) (iw := 0) rfl rfl rfl hl (rest := []) rfl (Nat.le_of_ble_eq_true rfl) ?_
  refine lv_iload_n hx hb dX1_takeSign_4 rfl (lv_at hl 1 rfl) ?_
  refine lv_icmp_eq (tgt := 10) hx hb dX1_takeSign_5 (by decide) (fun c4 => ?_) (fun c4 => ?_)
  · have hV := jT1 hV c4
    refine lv_aload_n hx hb dX1_takeSign_10 rfl (lv_at hl 0 rfl) ?_
    refine lv_dup hx hb dX1_takeSign_11 rfl ?_
    refine va_get (D := D) (ci := 3) (v := .int (M 0 6)) (C := RX1) (T := TX1) (N := 5) hx hb hts ju_X1 hown hK hP 0 rfl rfl 2 (by decide) (hts _ jq_45_7) (fun _ h9 => h9) rfl dX1_takeSign_12 ?_
    refine lv_iconst (v := 1) hx hb dX1_takeSign_15 (by decide) ?_
    refine lv_iadd hx hb dX1_takeSign_16 ?_
    refine va_put (D := D) (ci := 3) (v := .int ((M 0 6) + (1 : Int32))) (ty := .int) (C := RX1) (T := TX1) (N := 5) hx hb hts ju_X1 tyX1 tyX1_ok nmX1 hown hK hP hD hS 0 rfl rfl 2 (by decide) (hts _ jq_45_7) (fun _ h9 => h9) rfl (by decide +kernel) rfl rfl (Nat.le_of_ble_eq_true rfl) dX1_takeSign_17 (fun H locs hP hD hS => ?_)
    obtain ⟨M2, e3, hV⟩ := jLet hV
    have hP : va_P D vwCl (wInp a G M2) H := by rw [e3]; exact hP
    have hD : va_D A (wInp a G M2) := by rw [e3]; exact hD
    refine lv_iconst (v := 1) hx hb dX1_takeSign_20 (by decide) ?_
    cases hV
    exact mRet C rfl dX1_takeSign_21 rfl rfl hP hS
  · have hV := jF1 hV c4
    refine lv_iconst (v := 0) hx hb dX1_takeSign_8 (by decide) ?_
    cases hV
    exact mRet C rfl dX1_takeSign_9 rfl rfl hP hS
theorem jy_X1_takeNumber : jY yX1_takeNumber cX1_takeNumber 4 (some .boolean) 2 := ⟨by decide +kernel, jq_48_8, jq_2_1⟩
def F_X1_takeNumber (N : Nat)  (M : Nat → Nat → Int32) (v1 v2 : Int32) : Option (Int32 × (Nat → Nat → Int32)) := ((F_X1_signHere N M ).bind (fun r1 => ((F_X1_isDigit N  r1).bind (fun r2 => (if r2 = 0 then (some ((0 : Int32), M)) else ((F_X1_signHere N M ).bind (fun r3 => (jlet (stF M 6 ((M 0 6) + (1 : Int32))) (fun M4 => (if v2 = 0 then (jlet (u1 M4 2 (rs 3 (M4 2) v1 (r3 - (48 : Int32)))) (fun M6 => (some ((1 : Int32), M6)))) else ((F_X1_signHere N M4 ).bind (fun r8 => ((F_X1_isDigit N  r8).bind (fun r9 => (if r9 = 0 then (jlet (u1 M4 2 (rs 3 (M4 2) v1 (r3 - (48 : Int32)))) (fun M11 => (some ((1 : Int32), M11)))) else ((F_X1_signHere N M4 ).bind (fun r13 => (jlet (stF M4 6 ((M4 0 6) + (1 : Int32))) (fun M14 => (jlet (u1 M14 2 (rs 3 (M14 2) v1 ((((r3 - (48 : Int32)) * (10 : Int32)) + r13) - (48 : Int32)))) (fun M16 => (some ((1 : Int32), M16)))))))))))))))))))))))
set_option maxHeartbeats 4000000 in
set_option maxRecDepth 100000 in
theorem k_X1_takeNumber (l : Launch) (D : va_G) (G : Nat → ClassId) (a : Nat → Nat) (N : Nat) (M : Nat → Nat → Int32) (v1 v2 : Int32) (r : (Int32 × (Nat → Nat → Int32))) (hV : F_X1_takeNumber N  M v1 v2 = some r) : mM l yX1_takeNumber (jws yX1_takeNumber cX1_takeNumber 4 (some .boolean)) ({ frames := 1, cells := 0, slots := 0, locals := 22 } : Room) [.ref (a 3), .int v1, .int v2] D G (wInp a G M) (wInp a G r.2) (some (.int r.1)) := by
  refine mM_of (by decide +kernel) (Nat.le_of_ble_eq_true rfl) (fun p e s m args below meth c ls A C hP hD hA hl => ?_)
  have C : Cx p s m args meth c cX1_takeNumber 4 RX1 (some .boolean) D G := C
  have hS : va_S A s.heap s.heap [] := va_S.rf
  obtain ⟨hx, hb, hr, hml, hts, hown, hlocks, hK0⟩ := id C
  have hK := hK0.1
  have hl : lv_has ls 4 [(0, .ref (a 3)), (1, .int v1), (2, .int v2)] := hl
  rw [F_X1_takeNumber] at hV
  refine lv_aload_n hx hb dX1_takeNumber_0 rfl (lv_at hl 0 rfl) ?_
  obtain ⟨r1, hr1, hV⟩ := jBind hV
  refine jVpI C dX1_takeNumber_1 (k_X1_signHere l D G a N M  r1 hr1) jy_X1_signHere jq_45_17 jq_45_18 jq_45_19 ⟨rfl, rfl, Nat.le_of_ble_eq_true rfl, Nat.le_of_ble_eq_true rfl⟩ ⟨Nat.le_of_ble_eq_true rfl, Nat.le_of_ble_eq_true rfl⟩ hP  (ci := 3) (iw := 0) rfl rfl rfl hl (rest := []) rfl (Nat.le_of_ble_eq_true rfl) ?_
  obtain ⟨r2, hr2, hV⟩ := jBind hV
  refine jSpI C dX1_takeNumber_4 (k_X1_isDigit l D G  N  r1 r2 hr2) jy_X1_isDigit jq_48_9 jq_48_10 ⟨rfl, rfl, Nat.le_of_ble_eq_true rfl, Nat.le_of_ble_eq_true rfl⟩ ⟨Nat.le_of_ble_eq_true rfl, Nat.le_of_ble_eq_true rfl⟩ jE  hl (rest := []) rfl (Nat.le_of_ble_eq_true rfl) ?_
  refine lv_if_ne (tgt := 12) hx hb dX1_takeNumber_7 (by decide) (fun c22 => ?_) (fun c22 => ?_)
  · have hV := jF1 hV c22
    refine lv_aload_n hx hb dX1_takeNumber_12 rfl (lv_at hl 0 rfl) ?_
    obtain ⟨r3, hr3, hV⟩ := jBind hV
    refine jVpI C dX1_takeNumber_13 (k_X1_signHere l D G a N M  r3 hr3) jy_X1_signHere jq_45_17 jq_45_18 jq_45_19 ⟨rfl, rfl, Nat.le_of_ble_eq_true rfl, Nat.le_of_ble_eq_true rfl⟩ ⟨Nat.le_of_ble_eq_true rfl, Nat.le_of_ble_eq_true rfl⟩ hP  (ci := 3) (iw := 0) rfl rfl rfl hl (rest := []) rfl (Nat.le_of_ble_eq_true rfl) ?_
    refine lv_bipush (v := 48) hx hb dX1_takeNumber_16 (by decide) ?_
    refine lv_isub hx hb dX1_takeNumber_18 ?_
    refine lv_istore_n (lv' := [(3, .int (r3 - (48 : Int32))), (0, .ref (a 3)), (1, .int v1), (2, .int v2)]) hx hb dX1_takeNumber_19 rfl hl (by decide) rfl (fun ls hl => ?_)
    refine lv_aload_n hx hb dX1_takeNumber_20 rfl (lv_at hl 1 rfl) ?_
    refine lv_dup hx hb dX1_takeNumber_21 rfl ?_
    refine va_get (D := D) (ci := 3) (v := .int (M 0 6)) (C := RX1) (T := TX1) (N := 5) hx hb hts ju_X1 hown hK hP 0 rfl rfl 2 (by decide) (hts _ jq_45_7) (fun _ h9 => h9) rfl dX1_takeNumber_22 ?_
    refine lv_iconst (v := 1) hx hb dX1_takeNumber_25 (by decide) ?_
    refine lv_iadd hx hb dX1_takeNumber_26 ?_
    refine va_put (D := D) (ci := 3) (v := .int ((M 0 6) + (1 : Int32))) (ty := .int) (C := RX1) (T := TX1) (N := 5) hx hb hts ju_X1 tyX1 tyX1_ok nmX1 hown hK hP hD hS 0 rfl rfl 2 (by decide) (hts _ jq_45_7) (fun _ h9 => h9) rfl (by decide +kernel) rfl rfl (Nat.le_of_ble_eq_true rfl) dX1_takeNumber_27 (fun H locs hP hD hS => ?_)
    obtain ⟨M4, e21, hV⟩ := jLet hV
    have hP : va_P D vwCl (wInp a G M4) H := by rw [e21]; exact hP
    have hD : va_D A (wInp a G M4) := by rw [e21]; exact hD
    refine lv_iload_n hx hb dX1_takeNumber_30 rfl (lv_at hl 3 rfl) ?_
    refine lv_if_eq (tgt := 67) hx hb dX1_takeNumber_31 (by decide) (fun c20 => ?_) (fun c20 => ?_)
    · have hV := jT1 hV c20
      refine lv_aload_n hx hb dX1_takeNumber_67 rfl (lv_at hl 1 rfl) ?_
      refine va_get (D := D) (ci := 3) (v := .ref (a 5)) (C := RX1) (T := TX1) (N := 5) hx hb hts ju_X1 hown hK hP 0 rfl rfl 4 (by decide) (hts _ jq_5_19) (fun _ h9 => h9) rfl dX1_takeNumber_68 ?_
      refine lv_iload_n hx hb dX1_takeNumber_71 rfl (lv_at hl 2 rfl) ?_
      refine lv_iload_n hx hb dX1_takeNumber_72 rfl (lv_at hl 0 rfl) ?_
      refine jVmV C dX1_takeNumber_73 (kt_X5_set l D G (a 5) (a 6) 3 (Nat.le_of_ble_eq_true rfl) (M4 2) v1 (r3 - (48 : Int32))) jy_X5_set jq_48_12 jq_5_3 jq_5_4 ⟨rfl, rfl, Nat.le_of_ble_eq_true rfl, Nat.le_of_ble_eq_true rfl⟩ ⟨Nat.le_of_ble_eq_true rfl, Nat.le_of_ble_eq_true rfl⟩ (sX1_2 hP) (dX1_2 hD) hA hS (ci := 7) (iw := 0) rfl rfl rfl hl (rest := []) rfl (Nat.le_of_ble_eq_true rfl) (fun H locs hQ hz hkp hS => ?_)
      obtain ⟨M6, e7, hV⟩ := jLet hV
      have hP : va_P D vwCl (wInp a G M6) H := by rw [e7]; exact jX1_2 hP hD hkp hQ
      have hD : va_D A (wInp a G M6) := jD (w := (wInp a G M4)) rfl hD
      refine lv_iconst (v := 1) hx hb dX1_takeNumber_76 (by decide) ?_
      cases hV
      exact mRet C rfl dX1_takeNumber_77 rfl rfl hP hS
    · have hV := jF1 hV c20
      refine lv_aload_n hx hb dX1_takeNumber_34 rfl (lv_at hl 1 rfl) ?_
      obtain ⟨r8, hr8, hV⟩ := jBind hV
      refine jVpI C dX1_takeNumber_35 (k_X1_signHere l D G a N M4  r8 hr8) jy_X1_signHere jq_45_17 jq_45_18 jq_45_19 ⟨rfl, rfl, Nat.le_of_ble_eq_true rfl, Nat.le_of_ble_eq_true rfl⟩ ⟨Nat.le_of_ble_eq_true rfl, Nat.le_of_ble_eq_true rfl⟩ hP  (ci := 3) (iw := 0) rfl rfl rfl hl (rest := []) rfl (Nat.le_of_ble_eq_true rfl) ?_
      obtain ⟨r9, hr9, hV⟩ := jBind hV
      refine jSpI C dX1_takeNumber_38 (k_X1_isDigit l D G  N  r8 r9 hr9) jy_X1_isDigit jq_48_9 jq_48_10 ⟨rfl, rfl, Nat.le_of_ble_eq_true rfl, Nat.le_of_ble_eq_true rfl⟩ ⟨Nat.le_of_ble_eq_true rfl, Nat.le_of_ble_eq_true rfl⟩ jE  hl (rest := []) rfl (Nat.le_of_ble_eq_true rfl) ?_
      refine lv_if_eq (tgt := 67) hx hb dX1_takeNumber_41 (by decide) (fun c19 => ?_) (fun c19 => ?_)
      · have hV := jT1 hV c19
        refine lv_aload_n hx hb dX1_takeNumber_67 rfl (lv_at hl 1 rfl) ?_
        refine va_get (D := D) (ci := 3) (v := .ref (a 5)) (C := RX1) (T := TX1) (N := 5) hx hb hts ju_X1 hown hK hP 0 rfl rfl 4 (by decide) (hts _ jq_5_19) (fun _ h9 => h9) rfl dX1_takeNumber_68 ?_
        refine lv_iload_n hx hb dX1_takeNumber_71 rfl (lv_at hl 2 rfl) ?_
        refine lv_iload_n hx hb dX1_takeNumber_72 rfl (lv_at hl 0 rfl) ?_
        refine jVmV C dX1_takeNumber_73 (kt_X5_set l D G (a 5) (a 6) 3 (Nat.le_of_ble_eq_true rfl) (M4 2) v1 (r3 - (48 : Int32))) jy_X5_set jq_48_12 jq_5_3 jq_5_4 ⟨rfl, rfl, Nat.le_of_ble_eq_true rfl, Nat.le_of_ble_eq_true rfl⟩ ⟨Nat.le_of_ble_eq_true rfl, Nat.le_of_ble_eq_true rfl⟩ (sX1_2 hP) (dX1_2 hD) hA hS (ci := 7) (iw := 0) rfl rfl rfl hl (rest := []) rfl (Nat.le_of_ble_eq_true rfl) (fun H locs hQ hz hkp hS => ?_)
        obtain ⟨M11, e12, hV⟩ := jLet hV
        have hP : va_P D vwCl (wInp a G M11) H := by rw [e12]; exact jX1_2 hP hD hkp hQ
        have hD : va_D A (wInp a G M11) := jD (w := (wInp a G M4)) rfl hD
        refine lv_iconst (v := 1) hx hb dX1_takeNumber_76 (by decide) ?_
        cases hV
        exact mRet C rfl dX1_takeNumber_77 rfl rfl hP hS
      · have hV := jF1 hV c19
        refine lv_iload_n hx hb dX1_takeNumber_44 rfl (lv_at hl 0 rfl) ?_
        refine lv_bipush (v := 10) hx hb dX1_takeNumber_45 (by decide) ?_
        refine lv_imul hx hb dX1_takeNumber_47 ?_
        refine lv_aload_n hx hb dX1_takeNumber_48 rfl (lv_at hl 1 rfl) ?_
        obtain ⟨r13, hr13, hV⟩ := jBind hV
        refine jVpI C dX1_takeNumber_49 (k_X1_signHere l D G a N M4  r13 hr13) jy_X1_signHere jq_45_17 jq_45_18 jq_45_19 ⟨rfl, rfl, Nat.le_of_ble_eq_true rfl, Nat.le_of_ble_eq_true rfl⟩ ⟨Nat.le_of_ble_eq_true rfl, Nat.le_of_ble_eq_true rfl⟩ hP  (ci := 3) (iw := 0) rfl rfl rfl hl (rest := [.int ((r3 - (48 : Int32)) * (10 : Int32))]) rfl (Nat.le_of_ble_eq_true rfl) ?_
        refine lv_iadd hx hb dX1_takeNumber_52 ?_
        refine lv_bipush (v := 48) hx hb dX1_takeNumber_53 (by decide) ?_
        refine lv_isub hx hb dX1_takeNumber_55 ?_
        refine lv_istore_n (lv' := [(3, .int ((((r3 - (48 : Int32)) * (10 : Int32)) + r13) - (48 : Int32))), (0, .ref (a 3)), (1, .int v1), (2, .int v2)]) hx hb dX1_takeNumber_56 rfl hl (by decide) rfl (fun ls hl => ?_)
        refine lv_aload_n hx hb dX1_takeNumber_57 rfl (lv_at hl 1 rfl) ?_
        refine lv_dup hx hb dX1_takeNumber_58 rfl ?_
        refine va_get (D := D) (ci := 3) (v := .int (M4 0 6)) (C := RX1) (T := TX1) (N := 5) hx hb hts ju_X1 hown hK hP 0 rfl rfl 2 (by decide) (hts _ jq_45_7) (fun _ h9 => h9) rfl dX1_takeNumber_59 ?_
        refine lv_iconst (v := 1) hx hb dX1_takeNumber_62 (by decide) ?_
        refine lv_iadd hx hb dX1_takeNumber_63 ?_
        refine va_put (D := D) (ci := 3) (v := .int ((M4 0 6) + (1 : Int32))) (ty := .int) (C := RX1) (T := TX1) (N := 5) hx hb hts ju_X1 tyX1 tyX1_ok nmX1 hown hK hP hD hS 0 rfl rfl 2 (by decide) (hts _ jq_45_7) (fun _ h9 => h9) rfl (by decide +kernel) rfl rfl (Nat.le_of_ble_eq_true rfl) dX1_takeNumber_64 (fun H locs hP hD hS => ?_)
        obtain ⟨M14, e18, hV⟩ := jLet hV
        have hP : va_P D vwCl (wInp a G M14) H := by rw [e18]; exact hP
        have hD : va_D A (wInp a G M14) := by rw [e18]; exact hD
        refine lv_aload_n hx hb dX1_takeNumber_67 rfl (lv_at hl 1 rfl) ?_
        refine va_get (D := D) (ci := 3) (v := .ref (a 5)) (C := RX1) (T := TX1) (N := 5) hx hb hts ju_X1 hown hK hP 0 rfl rfl 4 (by decide) (hts _ jq_5_19) (fun _ h9 => h9) rfl dX1_takeNumber_68 ?_
        refine lv_iload_n hx hb dX1_takeNumber_71 rfl (lv_at hl 2 rfl) ?_
        refine lv_iload_n hx hb dX1_takeNumber_72 rfl (lv_at hl 0 rfl) ?_
        refine jVmV C dX1_takeNumber_73 (kt_X5_set l D G (a 5) (a 6) 3 (Nat.le_of_ble_eq_true rfl) (M14 2) v1 ((((r3 - (48 : Int32)) * (10 : Int32)) + r13) - (48 : Int32))) jy_X5_set jq_48_12 jq_5_3 jq_5_4 ⟨rfl, rfl, Nat.le_of_ble_eq_true rfl, Nat.le_of_ble_eq_true rfl⟩ ⟨Nat.le_of_ble_eq_true rfl, Nat.le_of_ble_eq_true rfl⟩ (sX1_2 hP) (dX1_2 hD) hA hS (ci := 7) (iw := 0) rfl rfl rfl hl (rest := []) rfl (Nat.le_of_ble_eq_true rfl) (fun H locs hQ hz hkp hS => ?_)
        obtain ⟨M16, e17, hV⟩ := jLet hV
        have hP : va_P D vwCl (wInp a G M16) H := by rw [e17]; exact jX1_2 hP hD hkp hQ
        have hD : va_D A (wInp a G M16) := jD (w := (wInp a G M14)) rfl hD
        refine lv_iconst (v := 1) hx hb dX1_takeNumber_76 (by decide) ?_
        cases hV
        exact mRet C rfl dX1_takeNumber_77 rfl rfl hP hS
  · have hV := jT1 hV c22
    refine lv_iconst (v := 0) hx hb dX1_takeNumber_10 (by decide) ?_
    cases hV
    exact mRet C rfl dX1_takeNumber_11 rfl rfl hP hS
