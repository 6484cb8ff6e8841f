theorem fm_succ {α β : Type} {f g : Nat → List β} {i : Nat} {x : List β} (h : ∀ j, j < i → g j = f j) (h2 : g i = x) : (List.range (i + 1)).flatMap g = (List.range i).flatMap f ++ x := by
  rw [List.range_succ, List.flatMap_append, List.flatMap_cons, List.flatMap_nil, List.append_nil, h2]
  rw [fm_congr (f := g) (g := f) (fun j hj => h j (List.mem_range.mp hj))]
theorem permX {α : Type} (a : α) (b c s t h : List α) : (a :: (((s ++ t) ++ (b ++ h)) ++ c)).Perm (a :: (b ++ (c ++ (s ++ (t ++ h))))) := by
  classical
  rw [List.perm_iff_count]
  intro x
  simp only [List.count_cons, List.count_append]
  omega
def hF (i : Nat) (u : Nat → Nat → Nat) : Nat → Option Nat := fun k => if k < i then some (u k 0) else none
def hU (i : Nat) (u : Nat → Nat → Nat) (v : Nat → Nat) : Nat → Nat → Nat := fun j => if j = i then v else u j
theorem hF_up (i : Nat) (u : Nat → Nat → Nat) (v : Nat → Nat) : va_up (hF i u) i (some (v 0)) = hF (i + 1) (hU i u v) := by
  funext k
  unfold va_up hF hU
  by_cases h1 : k = i
  · subst h1; simp
  · by_cases h2 : k < i
    · simp [h1, h2, show k < i + 1 by omega]
    · simp [h1, h2, show ¬ k < i + 1 by omega]
theorem hW_up (G : Nat → ClassId) (i : Nat) (u : Nat → Nat → Nat) (v : Nat → Nat) : (List.range (i + 1)).flatMap (fun j => wSeas (hU i u v j) G mS0) = (List.range i).flatMap (fun j => wSeas (u j) G mS0) ++ wSeas v G mS0 := by
  refine fm_succ (α := Nat) ?_ ?_
  · intro j hj
    show wSeas (hU i u v j) G mS0 = wSeas (u j) G mS0
    have : hU i u v j = u j := by unfold hU; rw [if_neg (by omega)]
    rw [this]
  · show wSeas (hU i u v i) G mS0 = wSeas v G mS0
    have : hU i u v i = v := by unfold hU; rw [if_pos rfl]
    rw [this]
abbrev wHis (q b : Nat) (G : Nat → ClassId) (i : Nat) (u : Nat → Nat → Nat) : va_W := (q, .inr (2, [.ref b, .int 0])) :: (b, .inl (G 2, 7, .inr (.inr (.inr (.inr (hF i u)))))) :: (List.range i).flatMap (fun j => wSeas (u j) G mS0)
theorem jy_X0_init : jY yX0_init cX0_init 2 none 0 := ⟨by decide +kernel, jq_5_9, jq_1_23⟩
set_option maxHeartbeats 4000000 in
set_option maxRecDepth 100000 in
theorem kc_X0_init (l : Launch) (D : va_G) (G : Nat → ClassId) (q : Nat) : iM (S := Nat × (Nat → Nat → Nat)) l yX0_init cX0_init 2 ({ frames := 4, cells := 274, slots := 2184, locals := 100 } : Room) [.ref q] D G [(q, .inr (2, [.null, .int 0]))] (fun _ => True) (fun u => wHis q u.1 G 7 u.2) 274 2184 := by
  refine iM_of (by decide +kernel) rfl (Nat.le_of_ble_eq_true rfl) (fun p e s m args below meth c ls A C hin hP hD hA hl => ?_)
  have C : Cx p s m args meth c cX0_init 2 RX0 none D G := C
  obtain ⟨hx, hb, hr, hml, hts, hown, hlocks, hK0⟩ := id C
  have hK := hK0.1
  have hS : va_S A s.heap s.heap [] := va_S.rf
  have hl : lv_has ls 2 [(0, .ref q)] := hl
  refine lv_aload_n hx hb dX0_init_0 rfl (lv_at hl 0 rfl) ?_
  refine W.objInit hx hb hown (hts _ jq_5_10) (hts _ jq_1_14) (hts _ jq_1_15) rfl (by rw [hml]; exact hl.1) rfl dX0_init_1 (Nat.le_of_ble_eq_true rfl) (Nat.le_of_ble_eq_true rfl) ?_
  refine W.eq (g2 := F0 m 4 ls []) rfl ?_
  refine lv_aload_n hx hb dX0_init_4 rfl (lv_at hl 0 rfl) ?_
  refine lv_bipush (v := 7) hx hb dX0_init_5 (by decide) ?_
  refine va_newq (C := "TheatreSeasons$Season") (N' := 7) hx hb hown (hts _ jq_5_11) (va_AO.of (hK0.2 _ jn_62)) hK hP hD hS hA (by decide) (by decide) (Nat.le_of_ble_eq_true rfl) (Nat.le_of_ble_eq_true rfl) (Nat.le_of_ble_eq_true rfl) dX0_init_7 (fun b cA H hK2 hP hD hS => ?_)
  obtain rfl : cA = G 2 := jClsO hK (k := 2) rfl hK2
  clear hK2
  have hP : va_P D vwCl ((q, .inr (2, [.null, .int 0])) :: ([(b, .inl (G 2, 7, .inr (.inr (.inr (.inr (fun _ => none))))))] : va_W)) H := hP
  have hD : va_D A ((q, .inr (2, [.null, .int 0])) :: ([(b, .inl (G 2, 7, .inr (.inr (.inr (.inr (fun _ => none))))))] : va_W)) := hD
  refine va_putF (D := D) (ci := 2) (v := .ref b) (ty := (.array (.object "TheatreSeasons$Season"))) (C := RX0) (T := TX0) (N := 2) hx hb hts ju_X0 tyX0 tyX0_ok nmX0 hown hK hP hD hS 0 rfl rfl 0 (by decide) (hts _ jq_5_12) (fun _ h9 => h9) rfl hin rfl (by decide +kernel) rfl rfl (Nat.le_of_ble_eq_true rfl) dX0_init_10 (fun H locs hP hD hS => ?_)
  have hP : va_P D vwCl ((q, .inr (2, [.ref b, .int 0])) :: ([(b, .inl (G 2, 7, .inr (.inr (.inr (.inr (fun _ => none))))))] : va_W)) H := hP
  have hD : va_D A ((q, .inr (2, [.ref b, .int 0])) :: ([(b, .inl (G 2, 7, .inr (.inr (.inr (.inr (fun _ => none))))))] : va_W)) := hD
  have e0 : (fun _ => none) = hF 0 (fun _ _ => 0) := by funext k; unfold hF; rw [if_neg (Nat.not_lt_zero k)]
  rw [e0] at hP hD
  refine lv_iconst (v := 0) hx hb dX0_init_13 (by decide) ?_
  refine lv_istore_n (lv' := [(1, .int 0), (0, .ref q)]) hx hb dX0_init_14 rfl hl (by decide) rfl (fun ls hl => ?_)
  have loop : ∀ (n i : Nat), n + i = 7 → ∀ (u : Nat → Nat → Nat) (ls : Array Slot) (H : Heap) (locs : List Loc), va_P D vwCl (wHis q b G i u) H → va_D A (wHis q b G i u) → va_S A s.heap H locs → lv_has ls 2 [(1, .int (Int32.ofNat i)), (0, .ref q)] → W p l e ({ frames := 4, cells := 274, slots := 2184, locals := 100 } : Room) s m args below meth c H locs (1 + i * 39) (7 + i * 311) (MQ below (iQ D (fun _ => True) (fun u : Nat × (Nat → Nat → Nat) => wHis q u.1 G 7 u.2) A) args s 274 2184 A) (F0 m 15 ls []) := by
    intro n
    induction n with
    | zero =>
      intro i hi u ls H locs hP hD hS hl
      obtain rfl : i = 7 := by omega
      refine lv_iload_n hx hb dX0_init_15 rfl (lv_at hl 0 rfl) ?_
      refine lv_aload_n hx hb dX0_init_16 rfl (lv_at hl 1 rfl) ?_
      refine va_get (D := D) (ci := 2) (v := .ref b) (C := RX0) (T := TX0) (N := 2) hx hb hts ju_X0 hown hK hP 0 rfl rfl 0 (by decide) (hts _ jq_5_12) (fun _ h9 => h9) rfl dX0_init_17 ?_
      refine va_alen (D := D) hx hb hK hP 1 2 rfl rfl (v := Int32.ofNat 7) rfl dX0_init_20 ?_
      refine lv_icmp_ge (tgt := 43) hx hb dX0_init_21 (by decide) (fun _ => ?_) (fun h => absurd (by decide) h)
      exact iRet C dX0_init_43 (b, u) trivial hP hD hS (Nat.le_of_ble_eq_true rfl) (Nat.le_of_ble_eq_true rfl)
    | succ n ih =>
      intro i hi u ls H locs hP hD hS hl
      have hi7 : ¬ (Int32.ofNat 7 ≤ Int32.ofNat i) := by
        rcases (show i = 0 ∨ i = 1 ∨ i = 2 ∨ i = 3 ∨ i = 4 ∨ i = 5 ∨ i = 6 by omega) with rfl | rfl | rfl | rfl | rfl | rfl | rfl <;> decide
      have hin9 : vp_in (Int32.ofNat i) 7 := by
        rcases (show i = 0 ∨ i = 1 ∨ i = 2 ∨ i = 3 ∨ i = 4 ∨ i = 5 ∨ i = 6 by omega) with rfl | rfl | rfl | rfl | rfl | rfl | rfl <;> exact inb_of (by decide)
      have hto : (Int32.ofNat i).toNatClampNeg = i := by
        rcases (show i = 0 ∨ i = 1 ∨ i = 2 ∨ i = 3 ∨ i = 4 ∨ i = 5 ∨ i = 6 by omega) with rfl | rfl | rfl | rfl | rfl | rfl | rfl <;> decide
      have hsu : Int32.ofNat i + 1 = Int32.ofNat (i + 1) := by
        rcases (show i = 0 ∨ i = 1 ∨ i = 2 ∨ i = 3 ∨ i = 4 ∨ i = 5 ∨ i = 6 by omega) with rfl | rfl | rfl | rfl | rfl | rfl | rfl <;> decide
      refine lv_iload_n hx hb dX0_init_15 rfl (lv_at hl 0 rfl) ?_
      refine lv_aload_n hx hb dX0_init_16 rfl (lv_at hl 1 rfl) ?_
      refine va_get (D := D) (ci := 2) (v := .ref b) (C := RX0) (T := TX0) (N := 2) hx hb hts ju_X0 hown hK hP 0 rfl rfl 0 (by decide) (hts _ jq_5_12) (fun _ h9 => h9) rfl dX0_init_17 ?_
      refine va_alen (D := D) hx hb hK hP 1 2 rfl rfl (v := Int32.ofNat 7) rfl dX0_init_20 ?_
      refine lv_icmp_ge (tgt := 43) hx hb dX0_init_21 (by decide) (fun h => absurd h hi7) (fun _ => ?_)
      refine lv_aload_n hx hb dX0_init_24 rfl (lv_at hl 1 rfl) ?_
      refine va_get (D := D) (ci := 2) (v := .ref b) (C := RX0) (T := TX0) (N := 2) hx hb hts ju_X0 hown hK hP 0 rfl rfl 0 (by decide) (hts _ jq_5_12) (fun _ h9 => h9) rfl dX0_init_25 ?_
      refine lv_iload_n hx hb dX0_init_28 rfl (lv_at hl 0 rfl) ?_
      refine jNew (ci := 8) (fs := [.null, .int 0, .int 0, .null, .null, .null, .null]) (Cn := RX6) (T := TX6) (N := 7) C ju_X6 tyX6 tyX6_ok jq_5_11 jq_1_17 jq_1_18 hP hD hS hA rfl (fun j hj => match j, hj with | 0, _ => rfl | 1, _ => rfl | 2, _ => rfl | 3, _ => rfl | 4, _ => rfl | 5, _ => rfl | 6, _ => rfl | k + 7, h => absurd h (by omega)) (by show 1 + i * 39 + 1 ≤ 274; omega) (by show 7 + i * 311 + 7 ≤ 2184; omega) dX0_init_29 dX0_init_32 (fun z H hP hD hS => ?_)
      refine jIni (ws := wHis q b G i u) C dX0_init_33 (kc_X6_init l D G z) jy_X6_init rfl jq_5_13 jq_2_9 ⟨rfl, rfl, Nat.le_of_ble_eq_true rfl, Nat.le_of_ble_eq_true rfl⟩ ⟨by show 1 + i * 39 + 1 + 38 ≤ 274; omega, by show 7 + i * 311 + 7 + 304 ≤ 2184; omega⟩ hP hD hS hA hl (As := []) rfl (Nat.le_of_ble_eq_true rfl) (fun v H locs ev hP hD hS => ?_)
      rw [← ev]
      refine va_astq (D := D) (v := v 0) hx hb hK hP hD hS 1 2 (wHis q b G i u).length 8 rfl rfl (by rw [List.getElem?_append_right (Nat.le_refl _), Nat.sub_self]; rfl) rfl hin9 dX0_init_36 (fun H locs hP hD hS => ?_)
      have e1 : va_up (hF i u) (Int32.ofNat i).toNatClampNeg (some (v 0)) = hF (i + 1) (hU i u v) := by rw [hto]; exact hF_up i u v
      rw [e1] at hP hD
      have e2 : (q, Sum.inr (2, [Value.ref b, .int 0])) :: (b, .inl (G 2, 7, .inr (.inr (.inr (.inr (hF (i + 1) (hU i u v))))))) :: ((List.range i).flatMap (fun j => wSeas (u j) G mS0) ++ wSeas v G mS0) = wHis q b G (i + 1) (hU i u v) := by
        show _ = (q, Sum.inr (2, [Value.ref b, .int 0])) :: (b, .inl (G 2, 7, .inr (.inr (.inr (.inr (hF (i + 1) (hU i u v))))))) :: (List.range (i + 1)).flatMap (fun j => wSeas (hU i u v j) G mS0)
        rw [hW_up]
      have hP : va_P D vwCl ((q, Sum.inr (2, [Value.ref b, .int 0])) :: (b, .inl (G 2, 7, .inr (.inr (.inr (.inr (hF (i + 1) (hU i u v))))))) :: ((List.range i).flatMap (fun j => wSeas (u j) G mS0) ++ wSeas v G mS0)) H := hP
      have hD : va_D A ((q, Sum.inr (2, [Value.ref b, .int 0])) :: (b, .inl (G 2, 7, .inr (.inr (.inr (.inr (hF (i + 1) (hU i u v))))))) :: ((List.range i).flatMap (fun j => wSeas (u j) G mS0) ++ wSeas v G mS0)) := hD
      rw [e2] at hP hD
      refine lv_iinc (v := Int32.ofNat (i + 1)) (lv' := [(1, .int (Int32.ofNat (i + 1))), (0, .ref q)]) hx hb dX0_init_37 hl (k := 0) rfl hsu (by decide) rfl (fun ls hl => ?_)
      refine lv_goto (tgt := 15) hx hb dX0_init_40 (by decide) ?_
      refine W.widen (k := 1 + (i + 1) * 39) (n := 7 + (i + 1) * 311) (by omega) (by omega) ?_
      exact ih (i + 1) (by omega) (hU i u v) ls H locs hP hD hS hl
  exact loop 7 0 rfl (fun _ _ => 0) ls H _ hP hD hS hl
/-- the class just made -/
def mT0 : Nat → Nat → Nat → Int32 := fun j => cond (Nat.ble j 8) mS0 (fun r => cond (Nat.beq r 0) (fun k => cond (Nat.ble 1 k && Nat.ble k 3) (-1) 0) (fun _ => 0))
theorem kof_T0 : kof mT0 = 0 := by decide
def bT (q z2 : Nat) (a0 a1 aI : Nat → Nat) (u : Nat × (Nat → Nat → Nat)) : Nat → Nat → Nat := fun j => cond (Nat.beq j 0) a0 (cond (Nat.beq j 1) a1 (cond (Nat.beq j 9) (fun k => cond (Nat.beq k 0) q (cond (Nat.beq k 1) z2 (cond (Nat.beq k 2) u.1 (aI k)))) (u.2 (j - 2))))
theorem bT_h (q z2 : Nat) (a0 a1 aI : Nat → Nat) (u : Nat × (Nat → Nat → Nat)) (k : Nat) (hk : k < 7) : hF 7 u.2 k = (fun i => some (bT q z2 a0 a1 aI u (2 + (i + kof mT0) % 7) 0)) k := by
  rw [kof_T0]
  rcases (show k = 0 ∨ k = 1 ∨ k = 2 ∨ k = 3 ∨ k = 4 ∨ k = 5 ∨ k = 6 by omega) with rfl | rfl | rfl | rfl | rfl | rfl | rfl <;> rfl
theorem bT_w {D : va_G} {A : Nat → Prop} {H : Heap} (G : Nat → ClassId) (q z2 : Nat) (a0 a1 aI : Nat → Nat) (u : Nat × (Nat → Nat → Nat))
    (hP : va_P D vwCl ((q, .inr (10, [.ref (a0 0), .ref (a1 0), .ref z2, .ref (aI 3), .int 0, .int (-1), .int (-1), .int (-1)])) :: (((wSeas a0 G mS0 ++ wSeas a1 G mS0) ++ wHis z2 u.1 G 7 u.2) ++ wInp aI G (fun _ _ => 0))) H)
    (hD : va_D A ((q, .inr (10, [.ref (a0 0), .ref (a1 0), .ref z2, .ref (aI 3), .int 0, .int (-1), .int (-1), .int (-1)])) :: (((wSeas a0 G mS0 ++ wSeas a1 G mS0) ++ wHis z2 u.1 G 7 u.2) ++ wInp aI G (fun _ _ => 0)))) :
    va_P D vwCl (wTS (bT q z2 a0 a1 aI u) G mT0) H ∧ va_D A (wTS (bT q z2 a0 a1 aI u) G mT0) := by
  have hp := permX (q, Sum.inr (10, [Value.ref (a0 0), .ref (a1 0), .ref z2, .ref (aI 3), .int 0, .int (-1), .int (-1), .int (-1)])) [((z2, .inr (2, [.ref u.1, .int 0])) : Nat × va_E), (u.1, .inl (G 2, 7, .inr (.inr (.inr (.inr (hF 7 u.2))))))] (wInp aI G (fun _ _ => 0)) (wSeas a0 G mS0) (wSeas a1 G mS0) ((List.range 7).flatMap (fun j => wSeas (u.2 j) G mS0))
  have hP2 := jSubP (fun x hx => hp.mem_iff.mpr hx) hP
  have hD2 : va_D A _ := jDnd.mpr ⟨(hp.map Prod.fst).nodup_iff.mp (jDnd.mp hD).1, fun x hx => (jDnd.mp hD).2 x (hp.mem_iff.mpr hx)⟩
  have hP3 := jArrR hP2 (i := 2) rfl (bT_h q z2 a0 a1 aI u)
  refine ⟨hP3, ?_⟩
  refine jD ?_ hD2
  rfl
theorem jy_X8_init : jY yX8_init cX8_init 1 none 0 := ⟨by decide +kernel, jq_1_12, jq_1_2⟩
set_option maxHeartbeats 4000000 in
set_option maxRecDepth 100000 in
theorem kc_X8_init (l : Launch) (D : va_G) (G : Nat → ClassId) (q : Nat) : iM (S := Nat → Nat → Nat) l yX8_init cX8_init 1 ({ frames := 5, cells := 357, slots := 2877, locals := 130 } : Room) [.ref q] D G [(q, .inr (10, [.null, .null, .null, .null, .int 0, .int 0, .int 0, .int 0]))] (fun B => B 9 0 = q) (fun B => wTS B G mT0) 357 2877 := by
  refine iM_of (by decide +kernel) rfl (Nat.le_of_ble_eq_true rfl) (fun p e s m args below meth c ls A C hin hP hD hA hl => ?_)
  have C : Cx p s m args meth c cX8_init 1 RX8 none D G := C
  obtain ⟨hx, hb, hr, hml, hts, hown, hlocks, hK0⟩ := id C
  have hK := hK0.1
  have hS : va_S A s.heap s.heap [] := va_S.rf
  have hl : lv_has ls 1 [(0, .ref q)] := hl
  refine lv_aload_n hx hb dX8_init_0 rfl (lv_at hl 0 rfl) ?_
  refine W.objInit hx hb hown (hts _ jq_1_13) (hts _ jq_1_14) (hts _ jq_1_15) rfl (by rw [hml]; exact hl.1) rfl dX8_init_1 (Nat.le_of_ble_eq_true rfl) (Nat.le_of_ble_eq_true rfl) ?_
  refine W.eq (g2 := F0 m 4 ls []) rfl ?_
  refine lv_aload_n hx hb dX8_init_4 rfl (lv_at hl 0 rfl) ?_
  refine jNew (ci := 8) (fs := [.null, .int 0, .int 0, .null, .null, .null, .null]) (Cn := RX6) (T := TX6) (N := 7) C ju_X6 tyX6 tyX6_ok jq_1_16 jq_1_17 jq_1_18 hP hD hS hA rfl (fun j hj => match j, hj with | 0, _ => rfl | 1, _ => rfl | 2, _ => rfl | 3, _ => rfl | 4, _ => rfl | 5, _ => rfl | 6, _ => rfl | k + 7, h => absurd h (by omega)) (Nat.le_of_ble_eq_true rfl) (Nat.le_of_ble_eq_true rfl) dX8_init_5 dX8_init_8 (fun z0 H hP hD hS => ?_)
  refine jIni (ws := (q, .inr (10, [.null, .null, .null, .null, .int 0, .int 0, .int 0, .int 0])) :: ([] : va_W)) C dX8_init_9 (kc_X6_init l D G z0) jy_X6_init rfl jq_2_8 jq_2_9 ⟨rfl, rfl, Nat.le_of_ble_eq_true rfl, Nat.le_of_ble_eq_true rfl⟩ ⟨Nat.le_of_ble_eq_true rfl, Nat.le_of_ble_eq_true rfl⟩ hP hD hS hA hl (As := []) rfl (Nat.le_of_ble_eq_true rfl) (fun a0 H locs e0 hP hD hS => ?_)
  have hP : va_P D vwCl ((q, .inr (10, [.null, .null, .null, .null, .int 0, .int 0, .int 0, .int 0])) :: (wSeas a0 G mS0 : va_W)) H := hP
  have hD : va_D A ((q, .inr (10, [.null, .null, .null, .null, .int 0, .int 0, .int 0, .int 0])) :: (wSeas a0 G mS0 : va_W)) := hD
  refine va_putF (D := D) (ci := 10) (v := .ref z0) (ty := (.object "TheatreSeasons$Season")) (C := RX8) (T := TX8) (N := 8) hx hb hts ju_X8 tyX8 tyX8_ok nmX8 hown hK hP hD hS 0 rfl rfl 0 (by decide) (hts _ jq_1_19) (fun _ h9 => h9) rfl hin rfl (by decide +kernel) rfl rfl (Nat.le_of_ble_eq_true rfl) dX8_init_12 (fun H locs hP hD hS => ?_)
  have hP : va_P D vwCl ((q, .inr (10, [.ref z0, .null, .null, .null, .int 0, .int 0, .int 0, .int 0])) :: (wSeas a0 G mS0 : va_W)) H := hP
  have hD : va_D A ((q, .inr (10, [.ref z0, .null, .null, .null, .int 0, .int 0, .int 0, .int 0])) :: (wSeas a0 G mS0 : va_W)) := hD
  refine lv_aload_n hx hb dX8_init_15 rfl (lv_at hl 0 rfl) ?_
  refine jNew (ci := 8) (fs := [.null, .int 0, .int 0, .null, .null, .null, .null]) (Cn := RX6) (T := TX6) (N := 7) C ju_X6 tyX6 tyX6_ok jq_1_16 jq_1_17 jq_1_18 hP hD hS hA rfl (fun j hj => match j, hj with | 0, _ => rfl | 1, _ => rfl | 2, _ => rfl | 3, _ => rfl | 4, _ => rfl | 5, _ => rfl | 6, _ => rfl | k + 7, h => absurd h (by omega)) (Nat.le_of_ble_eq_true rfl) (Nat.le_of_ble_eq_true rfl) dX8_init_16 dX8_init_19 (fun z1 H hP hD hS => ?_)
  refine jIni (ws := (q, .inr (10, [.ref z0, .null, .null, .null, .int 0, .int 0, .int 0, .int 0])) :: (wSeas a0 G mS0 : va_W)) C dX8_init_20 (kc_X6_init l D G z1) jy_X6_init rfl jq_2_8 jq_2_9 ⟨rfl, rfl, Nat.le_of_ble_eq_true rfl, Nat.le_of_ble_eq_true rfl⟩ ⟨Nat.le_of_ble_eq_true rfl, Nat.le_of_ble_eq_true rfl⟩ hP hD hS hA hl (As := []) rfl (Nat.le_of_ble_eq_true rfl) (fun a1 H locs e1 hP hD hS => ?_)
  have hP : va_P D vwCl ((q, .inr (10, [.ref z0, .null, .null, .null, .int 0, .int 0, .int 0, .int 0])) :: (wSeas a0 G mS0 ++ wSeas a1 G mS0 : va_W)) H := hP
  have hD : va_D A ((q, .inr (10, [.ref z0, .null, .null, .null, .int 0, .int 0, .int 0, .int 0])) :: (wSeas a0 G mS0 ++ wSeas a1 G mS0 : va_W)) := hD
  refine va_putF (D := D) (ci := 10) (v := .ref z1) (ty := (.object "TheatreSeasons$Season")) (C := RX8) (T := TX8) (N := 8) hx hb hts ju_X8 tyX8 tyX8_ok nmX8 hown hK hP hD hS 0 rfl rfl 1 (by decide) (hts _ jq_1_20) (fun _ h9 => h9) rfl hin rfl (by decide +kernel) rfl rfl (Nat.le_of_ble_eq_true rfl) dX8_init_23 (fun H locs hP hD hS => ?_)
  have hP : va_P D vwCl ((q, .inr (10, [.ref z0, .ref z1, .null, .null, .int 0, .int 0, .int 0, .int 0])) :: (wSeas a0 G mS0 ++ wSeas a1 G mS0 : va_W)) H := hP
  have hD : va_D A ((q, .inr (10, [.ref z0, .ref z1, .null, .null, .int 0, .int 0, .int 0, .int 0])) :: (wSeas a0 G mS0 ++ wSeas a1 G mS0 : va_W)) := hD
  refine lv_aload_n hx hb dX8_init_26 rfl (lv_at hl 0 rfl) ?_
  refine jNew (ci := 2) (fs := [.null, .int 0]) (Cn := RX0) (T := TX0) (N := 2) C ju_X0 tyX0 tyX0_ok jq_1_21 jq_1_22 jq_1_23 hP hD hS hA rfl (fun j hj => match j, hj with | 0, _ => rfl | 1, _ => rfl | k + 2, h => absurd h (by omega)) (Nat.le_of_ble_eq_true rfl) (Nat.le_of_ble_eq_true rfl) dX8_init_27 dX8_init_30 (fun z2 H hP hD hS => ?_)
  refine jIni (ws := (q, .inr (10, [.ref z0, .ref z1, .null, .null, .int 0, .int 0, .int 0, .int 0])) :: (wSeas a0 G mS0 ++ wSeas a1 G mS0 : va_W)) C dX8_init_31 (kc_X0_init l D G z2) jy_X0_init rfl jq_5_7 jq_5_8 ⟨rfl, rfl, Nat.le_of_ble_eq_true rfl, Nat.le_of_ble_eq_true rfl⟩ ⟨Nat.le_of_ble_eq_true rfl, Nat.le_of_ble_eq_true rfl⟩ hP hD hS hA hl (As := []) rfl (Nat.le_of_ble_eq_true rfl) (fun u H locs _ hP hD hS => ?_)
  have hP : va_P D vwCl ((q, .inr (10, [.ref z0, .ref z1, .null, .null, .int 0, .int 0, .int 0, .int 0])) :: (wSeas a0 G mS0 ++ wSeas a1 G mS0 ++ wHis z2 u.1 G 7 u.2 : va_W)) H := hP
  have hD : va_D A ((q, .inr (10, [.ref z0, .ref z1, .null, .null, .int 0, .int 0, .int 0, .int 0])) :: (wSeas a0 G mS0 ++ wSeas a1 G mS0 ++ wHis z2 u.1 G 7 u.2 : va_W)) := hD
  refine va_putF (D := D) (ci := 10) (v := .ref z2) (ty := (.object "TheatreSeasons$History")) (C := RX8) (T := TX8) (N := 8) hx hb hts ju_X8 tyX8 tyX8_ok nmX8 hown hK hP hD hS 0 rfl rfl 2 (by decide) (hts _ jq_2_0) (fun _ h9 => h9) rfl hin rfl (by decide +kernel) rfl rfl (Nat.le_of_ble_eq_true rfl) dX8_init_34 (fun H locs hP hD hS => ?_)
  have hP : va_P D vwCl ((q, .inr (10, [.ref z0, .ref z1, .ref z2, .null, .int 0, .int 0, .int 0, .int 0])) :: (wSeas a0 G mS0 ++ wSeas a1 G mS0 ++ wHis z2 u.1 G 7 u.2 : va_W)) H := hP
  have hD : va_D A ((q, .inr (10, [.ref z0, .ref z1, .ref z2, .null, .int 0, .int 0, .int 0, .int 0])) :: (wSeas a0 G mS0 ++ wSeas a1 G mS0 ++ wHis z2 u.1 G 7 u.2 : va_W)) := hD
  refine lv_aload_n hx hb dX8_init_37 rfl (lv_at hl 0 rfl) ?_
  refine jNew (ci := 3) (fs := [.null, .int 0, .int 0, .int 0, .null]) (Cn := RX1) (T := TX1) (N := 5) C ju_X1 tyX1 tyX1_ok jq_2_1 jq_2_2 jq_2_3 hP hD hS hA rfl (fun j hj => match j, hj with | 0, _ => rfl | 1, _ => rfl | 2, _ => rfl | 3, _ => rfl | 4, _ => rfl | k + 5, h => absurd h (by omega)) (Nat.le_of_ble_eq_true rfl) (Nat.le_of_ble_eq_true rfl) dX8_init_38 dX8_init_41 (fun z3 H hP hD hS => ?_)
  refine jIniN (ws := (q, .inr (10, [.ref z0, .ref z1, .ref z2, .null, .int 0, .int 0, .int 0, .int 0])) :: (wSeas a0 G mS0 ++ wSeas a1 G mS0 ++ wHis z2 u.1 G 7 u.2 : va_W)) C dX8_init_42 (kc_X1_init l D G z3) jy_X1_init rfl jn_42 jq_5_14 ⟨rfl, rfl, Nat.le_of_ble_eq_true rfl, Nat.le_of_ble_eq_true rfl⟩ ⟨Nat.le_of_ble_eq_true rfl, Nat.le_of_ble_eq_true rfl⟩ hP hD hS hA hl (As := []) rfl (Nat.le_of_ble_eq_true rfl) (fun aI H locs e3 hP hD hS => ?_)
  have hP : va_P D vwCl ((q, .inr (10, [.ref z0, .ref z1, .ref z2, .null, .int 0, .int 0, .int 0, .int 0])) :: (wSeas a0 G mS0 ++ wSeas a1 G mS0 ++ wHis z2 u.1 G 7 u.2 ++ wInp aI G (fun _ _ => 0) : va_W)) H := hP
  have hD : va_D A ((q, .inr (10, [.ref z0, .ref z1, .ref z2, .null, .int 0, .int 0, .int 0, .int 0])) :: (wSeas a0 G mS0 ++ wSeas a1 G mS0 ++ wHis z2 u.1 G 7 u.2 ++ wInp aI G (fun _ _ => 0) : va_W)) := hD
  refine va_putF (D := D) (ci := 10) (v := .ref z3) (ty := (.object "TheatreSeasons$Input")) (C := RX8) (T := TX8) (N := 8) hx hb hts ju_X8 tyX8 tyX8_ok nmX8 hown hK hP hD hS 0 rfl rfl 3 (by decide) (hts _ jq_2_4) (fun _ h9 => h9) rfl hin rfl (by decide +kernel) rfl rfl (Nat.le_of_ble_eq_true rfl) dX8_init_45 (fun H locs hP hD hS => ?_)
  have hP : va_P D vwCl ((q, .inr (10, [.ref z0, .ref z1, .ref z2, .ref z3, .int 0, .int 0, .int 0, .int 0])) :: (wSeas a0 G mS0 ++ wSeas a1 G mS0 ++ wHis z2 u.1 G 7 u.2 ++ wInp aI G (fun _ _ => 0) : va_W)) H := hP
  have hD : va_D A ((q, .inr (10, [.ref z0, .ref z1, .ref z2, .ref z3, .int 0, .int 0, .int 0, .int 0])) :: (wSeas a0 G mS0 ++ wSeas a1 G mS0 ++ wHis z2 u.1 G 7 u.2 ++ wInp aI G (fun _ _ => 0) : va_W)) := hD
  refine lv_aload_n hx hb dX8_init_48 rfl (lv_at hl 0 rfl) ?_
  refine lv_iconst (v := -1) hx hb dX8_init_49 (by decide) ?_
  refine va_put (D := D) (ci := 10) (v := .int (-1)) (ty := .int) (C := RX8) (T := TX8) (N := 8) hx hb hts ju_X8 tyX8 tyX8_ok nmX8 hown hK hP hD hS 0 rfl rfl 5 (by decide) (hts _ jq_2_5) (fun _ h9 => h9) rfl (by decide +kernel) rfl rfl (Nat.le_of_ble_eq_true rfl) dX8_init_50 (fun H locs hP hD hS => ?_)
  have hP : va_P D vwCl ((q, .inr (10, [.ref z0, .ref z1, .ref z2, .ref z3, .int 0, .int (-1), .int 0, .int 0])) :: (wSeas a0 G mS0 ++ wSeas a1 G mS0 ++ wHis z2 u.1 G 7 u.2 ++ wInp aI G (fun _ _ => 0) : va_W)) H := hP
  have hD : va_D A ((q, .inr (10, [.ref z0, .ref z1, .ref z2, .ref z3, .int 0, .int (-1), .int 0, .int 0])) :: (wSeas a0 G mS0 ++ wSeas a1 G mS0 ++ wHis z2 u.1 G 7 u.2 ++ wInp aI G (fun _ _ => 0) : va_W)) := hD
  refine lv_aload_n hx hb dX8_init_53 rfl (lv_at hl 0 rfl) ?_
  refine lv_iconst (v := -1) hx hb dX8_init_54 (by decide) ?_
  refine va_put (D := D) (ci := 10) (v := .int (-1)) (ty := .int) (C := RX8) (T := TX8) (N := 8) hx hb hts ju_X8 tyX8 tyX8_ok nmX8 hown hK hP hD hS 0 rfl rfl 6 (by decide) (hts _ jq_2_6) (fun _ h9 => h9) rfl (by decide +kernel) rfl rfl (Nat.le_of_ble_eq_true rfl) dX8_init_55 (fun H locs hP hD hS => ?_)
  have hP : va_P D vwCl ((q, .inr (10, [.ref z0, .ref z1, .ref z2, .ref z3, .int 0, .int (-1), .int (-1), .int 0])) :: (wSeas a0 G mS0 ++ wSeas a1 G mS0 ++ wHis z2 u.1 G 7 u.2 ++ wInp aI G (fun _ _ => 0) : va_W)) H := hP
  have hD : va_D A ((q, .inr (10, [.ref z0, .ref z1, .ref z2, .ref z3, .int 0, .int (-1), .int (-1), .int 0])) :: (wSeas a0 G mS0 ++ wSeas a1 G mS0 ++ wHis z2 u.1 G 7 u.2 ++ wInp aI G (fun _ _ => 0) : va_W)) := hD
  refine lv_aload_n hx hb dX8_init_58 rfl (lv_at hl 0 rfl) ?_
  refine lv_iconst (v := -1) hx hb dX8_init_59 (by decide) ?_
  refine va_put (D := D) (ci := 10) (v := .int (-1)) (ty := .int) (C := RX8) (T := TX8) (N := 8) hx hb hts ju_X8 tyX8 tyX8_ok nmX8 hown hK hP hD hS 0 rfl rfl 7 (by decide) (hts _ jq_2_7) (fun _ h9 => h9) rfl (by decide +kernel) rfl rfl (Nat.le_of_ble_eq_true rfl) dX8_init_60 (fun H locs hP hD hS => ?_)
  have hP : va_P D vwCl ((q, .inr (10, [.ref z0, .ref z1, .ref z2, .ref z3, .int 0, .int (-1), .int (-1), .int (-1)])) :: (wSeas a0 G mS0 ++ wSeas a1 G mS0 ++ wHis z2 u.1 G 7 u.2 ++ wInp aI G (fun _ _ => 0) : va_W)) H := hP
  have hD : va_D A ((q, .inr (10, [.ref z0, .ref z1, .ref z2, .ref z3, .int 0, .int (-1), .int (-1), .int (-1)])) :: (wSeas a0 G mS0 ++ wSeas a1 G mS0 ++ wHis z2 u.1 G 7 u.2 ++ wInp aI G (fun _ _ => 0) : va_W)) := hD
  rw [← e0, ← e1, ← e3] at hP hD
  obtain ⟨hP, hD⟩ := bT_w G q z2 a0 a1 aI u hP hD
  exact iRet C dX8_init_63 (bT q z2 a0 a1 aI u) rfl hP hD hS (Nat.le_of_ble_eq_true rfl) (Nat.le_of_ble_eq_true rfl)
