theorem fm_congr {α β : Type} {l : List α} {f g : α → List β} (h : ∀ j ∈ l, f j = g j) : l.flatMap f = l.flatMap g := by
  induction l with
  | nil => rfl
  | cons a l ih => rw [List.flatMap_cons, List.flatMap_cons, h a List.mem_cons_self, ih (fun j hj => h j (List.mem_cons_of_mem _ hj))]
/-- the whole class's world with any row of the history -/
abbrev wTSg (B : Nat → Nat → Nat) (G : Nat → ClassId) (S : Nat → Nat → Nat → Int32) (g : Nat → Nat) : va_W := (B 9 0, .inr (10, [.ref (B 0 0), .ref (B 1 0), .ref (B 9 1), .ref (B 9 3), .int (S 9 0 0), .int (S 9 0 1), .int (S 9 0 2), .int (S 9 0 3)])) :: (B 9 1, .inr (2, [.ref (B 9 2), .int (S 9 0 4)])) :: (B 9 2, .inl (G 2, 7, .inr (.inr (.inr (.inr (fun i => some (B (g i) 0))))))) :: (wInp (B 9) G (S 9) ++ wAll B G S)
theorem wTS_st (B : Nat → Nat → Nat) (G : Nat → ClassId) (S : Nat → Nat → Nat → Int32) (k : Nat) (v : Int32) : wTS B G (stT S k v) = wHd B G (stT S k v) ++ (wInp (B 9) G (stT S k v 9) ++ wAll B G S) := by
  have h : wAll B G (stT S k v) = wAll B G S := by
    unfold wAll
    refine fm_congr ?_
    intro j hj
    have hj9 : j ≠ 9 := by
      simp only [List.mem_cons, List.not_mem_nil, or_false] at hj
      omega
    unfold stT
    rw [u1_ne hj9]
  show wHd B G (stT S k v) ++ (wInp (B 9) G (stT S k v 9) ++ wAll B G (stT S k v)) = _
  rw [h]
theorem jArrR {D : va_G} {w : va_W} {H : Heap} {i a n : Nat} {cA : ClassId} {f g : Nat → Option Nat} (h : va_P D vwCl w H) (hi : w[i]? = some (a, .inl (cA, n, .inr (.inr (.inr (.inr f)))))) (hfg : ∀ k, k < n → f k = g k) : va_P D vwCl (w.set i (a, .inl (cA, n, .inr (.inr (.inr (.inr g)))))) H := by
  have hl := (List.getElem?_eq_some_iff.mp hi).1
  intro k q hk
  by_cases hki : k = i
  · subst hki
    rw [List.getElem?_set_self hl] at hk
    cases hk
    have h1 := h k _ hi
    show H[a]? = some (vp_cell cA (n, .inr (.inr (.inr (.inr g)))))
    rw [show vp_cell cA (n, .inr (.inr (.inr (.inr g)))) = vp_cell cA (n, .inr (.inr (.inr (.inr f)))) from ?_]
    · exact h1
    · rw [vp_cell_q, vp_cell_q]
      unfold arrV
      congr 1
      apply Array.ext
      · simp
      · intro j h1 h2
        simp at h1
        simp [hfg j h1]
  · rw [List.getElem?_set_ne (Ne.symm hki)] at hk
    exact h k q hk
def swN (j : Nat) (g : Nat → Nat) : Nat → Nat := fun i => if i = j + 1 then g j else if i = j then g (j + 1) else g i
theorem swN_lt {g : Nat → Nat} (hg : ∀ i, g i < 9) (j i : Nat) : swN j g i < 9 := by
  unfold swN
  by_cases h1 : i = j + 1
  · rw [if_pos h1]; exact hg j
  · by_cases h2 : i = j
    · rw [if_neg h1, if_pos h2]; exact hg (j + 1)
    · rw [if_neg h1, if_neg h2]; exact hg i
def rotN : Nat → Nat → (Nat → Nat) → Nat → Nat
  | 0, _, g => g
  | n + 1, j, g => rotN n (j + 1) (swN j g)
/-- the row is turned by one -/
def hRot (S : Nat → Nat → Nat → Int32) : Nat → Nat → Nat → Int32 := u1 S 9 (u1 (S 9) 9 (fun _ => nI ((kof S + 1) % 7)))
theorem kof_rot (S : Nat → Nat → Nat → Int32) : kof (hRot S) = (kof S + 1) % 7 := by
  show (hRot S 9 9 0).toNatClampNeg % 7 = _
  unfold hRot
  rw [u1_eq, u1_eq, nI_clamp (by omega)]
  omega
def hClose (S : Nat → Nat → Nat → Int32) : Nat → Nat → Nat → Int32 := if 6 ≤ S 9 0 4 then hRot S else stT S 4 (S 9 0 4 + 1)
def hOpen (S : Nat → Nat → Nat → Int32) : Nat → Nat → Nat → Int32 := if inb (S 9 0 4) 7 = true then u1 S (ph S (S 9 0 4).toNatClampNeg) (S 0) else S
def hBack (S : Nat → Nat → Nat → Int32) : Nat → Nat → Nat → Int32 := if inb (S 9 0 4) 7 = true then u1 S 0 (S (ph S (S 9 0 4).toNatClampNeg)) else S
def hStep (S : Nat → Nat → Nat → Int32) : Nat → Nat → Nat → Int32 := if S 9 0 4 ≤ 0 then S else hBack (stT S 4 (S 9 0 4 - 1))
theorem wTS_hRot (B : Nat → Nat → Nat) (G : Nat → ClassId) (S : Nat → Nat → Nat → Int32) : wTS B G (hRot S) = (wTSg B G S (fun _ => 0)).set 2 (B 9 2, .inl (G 2, 7, .inr (.inr (.inr (.inr (fun i => some (B (2 + (i + kof (hRot S)) % 7) 0))))))) := by
  have h : wAll B G (hRot S) = wAll B G S := by
    unfold wAll
    refine fm_congr ?_
    intro j hj
    have hj9 : j ≠ 9 := by
      simp only [List.mem_cons, List.not_mem_nil, or_false] at hj
      omega
    unfold hRot
    rw [u1_ne hj9]
  show wHd B G (hRot S) ++ (wInp (B 9) G (hRot S 9) ++ wAll B G (hRot S)) = _
  rw [h]
  rfl
theorem wSeas_head (B : Nat → Nat → Nat) (G : Nat → ClassId) (S : Nat → Nat → Nat → Int32) {j : Nat} (hj : j < 9) : ∃ fs, (B j 0, Sum.inr (8, fs)) ∈ wAll B G S := ⟨_, wAll_mem.mpr ⟨j, hj, List.mem_cons_self⟩⟩
theorem jy_X0_rowAt : jY yX0_rowAt cX0_rowAt 2 (some (.object "TheatreSeasons$Season")) 1 := ⟨by decide +kernel, jq_8_22, jq_1_23⟩
set_option maxHeartbeats 4000000 in
set_option maxRecDepth 100000 in
theorem k_X0_rowAtIn (l : Launch) (D : va_G) (G : Nat → ClassId) (B : Nat → Nat → Nat) (S : Nat → Nat → Nat → Int32) (x : Int32) (hi : inb x 7 = true) : pM l yX0_rowAt (jws yX0_rowAt cX0_rowAt 2 (some (.object "TheatreSeasons$Season"))) ({ frames := 0, cells := 0, slots := 0, locals := 0 } : Room) [.ref (B 9 1), .int x] D G (wTS B G S) (some (.ref (B (ph S x.toNatClampNeg) 0))) := by
  refine pM_of (by decide +kernel) (Nat.le_of_ble_eq_true rfl) (fun p e s m args below meth c ls C hP hl => ?_)
  have C : Cx p s m args meth c cX0_rowAt 2 RX0 (some (.object "TheatreSeasons$Season")) D G := C
  obtain ⟨hx, hb, hr, hml, hts, hown, hlocks, hK0⟩ := id C
  have hK := hK0.1
  have hl : lv_has ls 2 [(0, .ref (B 9 1)), (1, .int x)] := hl
  refine lv_iload_n hx hb dX0_rowAt_0 rfl (lv_at hl 1 rfl) ?_
  obtain ⟨i1, i2⟩ := inb_lt hi (Nat.le_of_ble_eq_true rfl)
  refine lv_if_lt (tgt := 22) hx hb dX0_rowAt_1 (by decide) (fun h => absurd h i1) (fun _ => ?_)
  refine lv_iload_n hx hb dX0_rowAt_4 rfl (lv_at hl 1 rfl) ?_
  refine lv_aload_n hx hb dX0_rowAt_5 rfl (lv_at hl 0 rfl) ?_
  refine va_get (D := D) (ci := 2) (v := .ref (B 9 2)) (C := RX0) (T := TX0) (N := 2) hx hb hts ju_X0 hown hK hP 1 rfl rfl 0 (by decide) (hts _ jq_5_12) (fun _ h9 => h9) rfl dX0_rowAt_6 ?_
  refine va_alen (D := D) hx hb hK hP 2 2 rfl rfl (v := Int32.ofNat 7) rfl dX0_rowAt_9 ?_
  refine lv_icmp_ge (tgt := 22) hx hb dX0_rowAt_10 (by decide) (fun h => absurd h i2) (fun _ => ?_)
  refine lv_aload_n hx hb dX0_rowAt_13 rfl (lv_at hl 0 rfl) ?_
  refine va_get (D := D) (ci := 2) (v := .ref (B 9 2)) (C := RX0) (T := TX0) (N := 2) hx hb hts ju_X0 hown hK hP 1 rfl rfl 0 (by decide) (hts _ jq_5_12) (fun _ h9 => h9) rfl dX0_rowAt_14 ?_
  refine lv_iload_n hx hb dX0_rowAt_17 rfl (lv_at hl 1 rfl) ?_
  refine va_aldq (D := D) hx hb hK hP 2 2 rfl rfl (inb_of hi) dX0_rowAt_18 ?_
  refine lv_goto (tgt := 23) hx hb dX0_rowAt_19 (by decide) ?_
  exact W.aret (v := .ref (B (ph S x.toNatClampNeg) 0)) hx hb hr (Or.inl ⟨_, rfl⟩) (Or.inr ⟨_, rfl⟩) (fun t ht _ => ⟨rfl, ht⟩) (fun q h => nomatch h) dX0_rowAt_23 hlocks
set_option maxHeartbeats 4000000 in
set_option maxRecDepth 100000 in
theorem k_X0_rowAtOut (l : Launch) (D : va_G) (G : Nat → ClassId) (B : Nat → Nat → Nat) (S : Nat → Nat → Nat → Int32) (x : Int32) (hi : ¬ inb x 7 = true) : pM l yX0_rowAt (jws yX0_rowAt cX0_rowAt 2 (some (.object "TheatreSeasons$Season"))) ({ frames := 0, cells := 0, slots := 0, locals := 0 } : Room) [.ref (B 9 1), .int x] D G (wTS B G S) (some .null) := by
  refine pM_of (by decide +kernel) (Nat.le_of_ble_eq_true rfl) (fun p e s m args below meth c ls C hP hl => ?_)
  have C : Cx p s m args meth c cX0_rowAt 2 RX0 (some (.object "TheatreSeasons$Season")) D G := C
  obtain ⟨hx, hb, hr, hml, hts, hown, hlocks, hK0⟩ := id C
  have hK := hK0.1
  have hl : lv_has ls 2 [(0, .ref (B 9 1)), (1, .int x)] := hl
  refine lv_iload_n hx hb dX0_rowAt_0 rfl (lv_at hl 1 rfl) ?_
  refine lv_if_lt (tgt := 22) hx hb dX0_rowAt_1 (by decide) (fun _ => ?_) (fun i1 => ?_)
  · refine lv_null hx hb dX0_rowAt_22 ?_
    exact W.aret (v := .null) hx hb hr (Or.inl ⟨_, rfl⟩) (Or.inl rfl) (fun t ht _ => ⟨rfl, ht⟩) (fun q h => nomatch h) dX0_rowAt_23 hlocks
  · refine lv_iload_n hx hb dX0_rowAt_4 rfl (lv_at hl 1 rfl) ?_
    refine lv_aload_n hx hb dX0_rowAt_5 rfl (lv_at hl 0 rfl) ?_
    refine va_get (D := D) (ci := 2) (v := .ref (B 9 2)) (C := RX0) (T := TX0) (N := 2) hx hb hts ju_X0 hown hK hP 1 rfl rfl 0 (by decide) (hts _ jq_5_12) (fun _ h9 => h9) rfl dX0_rowAt_6 ?_
    refine va_alen (D := D) hx hb hK hP 2 2 rfl rfl (v := Int32.ofNat 7) rfl dX0_rowAt_9 ?_
    refine lv_icmp_ge (tgt := 22) hx hb dX0_rowAt_10 (by decide) (fun _ => ?_) (fun i2 => absurd ((inb_no hi (Nat.le_of_ble_eq_true rfl)).elim (fun h => absurd h i1) id) i2)
    refine lv_null hx hb dX0_rowAt_22 ?_
    exact W.aret (v := .null) hx hb hr (Or.inl ⟨_, rfl⟩) (Or.inl rfl) (fun t ht _ => ⟨rfl, ht⟩) (fun q h => nomatch h) dX0_rowAt_23 hlocks
theorem jy_X0_copySeason : jY yX0_copySeason cX0_copySeason 2 none 2 := ⟨by decide +kernel, jq_9_1, jq_1_23⟩
set_option maxHeartbeats 4000000 in
set_option maxRecDepth 100000 in
theorem kc_copySeason (l : Launch) (D : va_G) (G : Nat → ClassId) (a b : Nat → Nat) (M Z : Nat → Nat → Int32) : mM l yX0_copySeason (jws yX0_copySeason cX0_copySeason 2 none) ({ frames := 4, cells := 0, slots := 0, locals := 160 } : Room) [.ref (a 0), .ref (b 0)] D G (wSeas a G M ++ wSeas b G Z) (wSeas a G Z ++ wSeas b G Z) none := by
  refine mM_of (by decide +kernel) (Nat.le_of_ble_eq_true rfl) (fun p e s m args below meth c ls A C hP hD hA hl => ?_)
  have C : Cx p s m args meth c cX0_copySeason 2 RX0 none D G := C
  obtain ⟨hx, hb, hr, hml, hts, hown, hlocks, hK0⟩ := id C
  have hK := hK0.1
  have hS : va_S A s.heap s.heap [] := va_S.rf
  have hl : lv_has ls 2 [(0, .ref (a 0)), (1, .ref (b 0))] := hl
  refine lv_aload_n hx hb dX0_copySeason_0 rfl (lv_at hl 0 rfl) ?_
  refine lv_ifnull hx hb dX0_copySeason_1 ?_
  refine lv_aload_n hx hb dX0_copySeason_4 rfl (lv_at hl 1 rfl) ?_
  refine lv_ifnull hx hb dX0_copySeason_5 ?_
  refine lv_aload_n hx hb dX0_copySeason_8 rfl (lv_at hl 0 rfl) ?_
  refine lv_aload_n hx hb dX0_copySeason_9 rfl (lv_at hl 1 rfl) ?_
  refine jVmV C dX0_copySeason_10 (kc_X6 l D G a b M Z) jy_X6_copyFrom jq_9_2 jq_9_3 jq_9_4 ⟨rfl, rfl, Nat.le_of_ble_eq_true rfl, Nat.le_of_ble_eq_true rfl⟩ ⟨Nat.zero_le _, Nat.zero_le _⟩ hP hD hA hS (ci := 8) (iw := 0) rfl rfl rfl hl (rest := []) rfl (Nat.le_of_ble_eq_true rfl) (fun H locs hQ hz hkp hS => ?_)
  exact mRetV C dX0_copySeason_13 hQ hS
set_option maxHeartbeats 4000000 in
set_option maxRecDepth 100000 in
theorem k_copySeasonN1 (l : Launch) (D : va_G) (G : Nat → ClassId) (x : Nat) : pM l yX0_copySeason (jws yX0_copySeason cX0_copySeason 2 none) ({ frames := 4, cells := 0, slots := 0, locals := 160 } : Room) [.null, .ref x] D G ([] : va_W) none := by
  refine pM_of (by decide +kernel) (Nat.le_of_ble_eq_true rfl) (fun p e s m args below meth c ls C hP hl => ?_)
  have C : Cx p s m args meth c cX0_copySeason 2 RX0 none D G := C
  obtain ⟨hx, hb, hr, hml, hts, hown, hlocks, hK0⟩ := id C
  have hl : lv_has ls 2 [(0, .null), (1, .ref x)] := hl
  refine lv_aload_nN hx hb dX0_copySeason_0 rfl (lv_at hl 0 rfl) ?_
  refine lv_ifnullN (tgt := 13) hx hb dX0_copySeason_1 (by decide) ?_
  exact pRetV C dX0_copySeason_13
set_option maxHeartbeats 4000000 in
set_option maxRecDepth 100000 in
theorem k_copySeasonN2 (l : Launch) (D : va_G) (G : Nat → ClassId) (x : Nat) : pM l yX0_copySeason (jws yX0_copySeason cX0_copySeason 2 none) ({ frames := 4, cells := 0, slots := 0, locals := 160 } : Room) [.ref x, .null] D G ([] : va_W) none := by
  refine pM_of (by decide +kernel) (Nat.le_of_ble_eq_true rfl) (fun p e s m args below meth c ls C hP hl => ?_)
  have C : Cx p s m args meth c cX0_copySeason 2 RX0 none D G := C
  obtain ⟨hx, hb, hr, hml, hts, hown, hlocks, hK0⟩ := id C
  have hl : lv_has ls 2 [(0, .ref x), (1, .null)] := hl
  refine lv_aload_n hx hb dX0_copySeason_0 rfl (lv_at hl 0 rfl) ?_
  refine lv_ifnull hx hb dX0_copySeason_1 ?_
  refine lv_aload_nN hx hb dX0_copySeason_4 rfl (lv_at hl 1 rfl) ?_
  refine lv_ifnullN (tgt := 13) hx hb dX0_copySeason_5 (by decide) ?_
  exact pRetV C dX0_copySeason_13
theorem jy_X0_forgetOldest : jY yX0_forgetOldest cX0_forgetOldest 3 none 0 := ⟨by decide +kernel, jq_11_18, jq_1_23⟩
set_option maxHeartbeats 4000000 in
set_option maxRecDepth 100000 in
theorem L_forgetOldest {p : Program} {l : Launch} {e : Env} {R : Room} {s : State} {m : MethodId} {args : Array Value} {below : List Frame} {meth : Method} {c : Code} {D : va_G} {G : Nat → ClassId} {A : Nat → Prop} {Q : State → Prop} (C : Cx p s m args meth c cX0_forgetOldest 3 RX0 none D G) (B : Nat → Nat → Nat) (S : Nat → Nat → Nat → Int32) (gF : Nat → Nat)
    (kk : ∀ (H : Heap) (locs : List Loc) (ls : Array Slot), va_P D vwCl (wTSg B G S gF) H → va_S A s.heap H locs → W p l e R s m args below meth c H locs 0 0 Q (F0 m 49 ls [])) :
    ∀ (n j : Nat), j + n = 6 → ∀ (g : Nat → Nat), (∀ i, g i < 9) → rotN n j g = gF → ∀ (ls : Array Slot) (H : Heap) (locs : List Loc), va_P D vwCl (wTSg B G S g) H → va_D A (wTSg B G S g) → va_S A s.heap H locs → lv_has ls 3 [(0, .ref (B 9 1)), (1, .int (nI j))] → W p l e R s m args below meth c H locs 0 0 Q (F0 m 2 ls []) := by
  obtain ⟨hx, hb, hr, hml, hts, hown, hlocks, hK0⟩ := id C
  have hK := hK0.1
  intro n
  induction n with
  | zero =>
    intro j hj g hg hF ls H locs hP hD hS hl
    have hj6 : j = 6 := by omega
    subst hj6
    refine lv_iload_n hx hb dX0_forgetOldest_2 rfl (lv_at hl 1 rfl) ?_
    refine lv_iconst (v := 1) hx hb dX0_forgetOldest_3 (by decide) ?_
    refine lv_iadd hx hb dX0_forgetOldest_4 ?_
    refine lv_aload_n hx hb dX0_forgetOldest_5 rfl (lv_at hl 0 rfl) ?_
    refine va_get (D := D) (ci := 2) (v := .ref (B 9 2)) (C := RX0) (T := TX0) (N := 2) hx hb hts ju_X0 hown hK hP 1 rfl rfl 0 (by decide) (hts _ jq_5_12) (fun _ h9 => h9) rfl dX0_forgetOldest_6 ?_
    refine va_alen (D := D) hx hb hK hP 2 2 rfl rfl (v := Int32.ofNat 7) rfl dX0_forgetOldest_9 ?_
    refine lv_icmp_ge (tgt := 49) hx hb dX0_forgetOldest_10 (by decide) (fun _ => ?_) (fun h => absurd (by decide) h)
    exact kk H locs ls (by rw [← hF]; exact hP) hS
  | succ n ih =>
    intro j hj g hg hF ls H locs hP hD hS hl
    have e1 : nI j + 1 = nI (j + 1) := nI_1 j
    refine lv_iload_n hx hb dX0_forgetOldest_2 rfl (lv_at hl 1 rfl) ?_
    refine lv_iconst (v := 1) hx hb dX0_forgetOldest_3 (by decide) ?_
    refine lv_iadd hx hb dX0_forgetOldest_4 ?_
    rw [e1]
    refine lv_aload_n hx hb dX0_forgetOldest_5 rfl (lv_at hl 0 rfl) ?_
    refine va_get (D := D) (ci := 2) (v := .ref (B 9 2)) (C := RX0) (T := TX0) (N := 2) hx hb hts ju_X0 hown hK hP 1 rfl rfl 0 (by decide) (hts _ jq_5_12) (fun _ h9 => h9) rfl dX0_forgetOldest_6 ?_
    refine va_alen (D := D) hx hb hK hP 2 2 rfl rfl (v := Int32.ofNat 7) rfl dX0_forgetOldest_9 ?_
    refine lv_icmp_ge (tgt := 49) hx hb dX0_forgetOldest_10 (by decide) (fun h => absurd h (nI_ge (by omega) (by omega))) (fun _ => ?_)
    refine lv_aload_n hx hb dX0_forgetOldest_13 rfl (lv_at hl 0 rfl) ?_
    refine va_get (D := D) (ci := 2) (v := .ref (B 9 2)) (C := RX0) (T := TX0) (N := 2) hx hb hts ju_X0 hown hK hP 1 rfl rfl 0 (by decide) (hts _ jq_5_12) (fun _ h9 => h9) rfl dX0_forgetOldest_14 ?_
    refine lv_iload_n hx hb dX0_forgetOldest_17 rfl (lv_at hl 1 rfl) ?_
    refine va_aldq (D := D) hx hb hK hP 2 2 rfl rfl (vp_in_nI (by omega) (by omega)) dX0_forgetOldest_18 ?_
    rw [nI_clamp (by omega)]
    refine lv_astore_n (x := B (g j) 0) (lv' := [(2, .ref (B (g j) 0)), (0, .ref (B 9 1)), (1, .int (nI j))]) hx hb dX0_forgetOldest_19 rfl hl (by decide) rfl (fun ls hl => ?_)
    refine lv_aload_n hx hb dX0_forgetOldest_20 rfl (lv_at hl 1 rfl) ?_
    refine va_get (D := D) (ci := 2) (v := .ref (B 9 2)) (C := RX0) (T := TX0) (N := 2) hx hb hts ju_X0 hown hK hP 1 rfl rfl 0 (by decide) (hts _ jq_5_12) (fun _ h9 => h9) rfl dX0_forgetOldest_21 ?_
    refine lv_iload_n hx hb dX0_forgetOldest_24 rfl (lv_at hl 2 rfl) ?_
    refine lv_aload_n hx hb dX0_forgetOldest_25 rfl (lv_at hl 1 rfl) ?_
    refine va_get (D := D) (ci := 2) (v := .ref (B 9 2)) (C := RX0) (T := TX0) (N := 2) hx hb hts ju_X0 hown hK hP 1 rfl rfl 0 (by decide) (hts _ jq_5_12) (fun _ h9 => h9) rfl dX0_forgetOldest_26 ?_
    refine lv_iload_n hx hb dX0_forgetOldest_29 rfl (lv_at hl 2 rfl) ?_
    refine lv_iconst (v := 1) hx hb dX0_forgetOldest_30 (by decide) ?_
    refine lv_iadd hx hb dX0_forgetOldest_31 ?_
    rw [e1]
    refine va_aldq (D := D) hx hb hK hP 2 2 rfl rfl (vp_in_nI (by omega) (by omega)) dX0_forgetOldest_32 ?_
    rw [nI_clamp (by omega)]
    obtain ⟨f1, h1⟩ := wSeas_head B G S (hg (j + 1))
    obtain ⟨q1, hq1⟩ := List.getElem?_of_mem (List.mem_append_right (wInp (B 9) G (S 9)) h1)
    refine va_astq (D := D) (v := B (g (j + 1)) 0) hx hb hK hP hD hS 2 2 (q1 + 3) 8 rfl rfl hq1 rfl (vp_in_nI (by omega) (by omega)) dX0_forgetOldest_33 (fun H locs hP hD hS => ?_)
    rw [nI_clamp (by omega)] at hP hD
    obtain ⟨g1, eg1⟩ : ∃ z, z = fun i => if i = j then g (j + 1) else g i := ⟨_, rfl⟩
    have hf1 : va_up (fun i => some (B (g i) 0)) j (some (B (g (j + 1)) 0)) = fun i => some (B (g1 i) 0) := by
      funext i
      rw [eg1]
      unfold va_up
      by_cases hi : i = j
      · simp only [hi, if_true]
      · simp only [hi, if_false]
    rw [hf1] at hP hD
    have hP : va_P D vwCl (wTSg B G S g1) H := hP
    have hD : va_D A (wTSg B G S g1) := hD
    refine lv_aload_n hx hb dX0_forgetOldest_34 rfl (lv_at hl 1 rfl) ?_
    refine va_get (D := D) (ci := 2) (v := .ref (B 9 2)) (C := RX0) (T := TX0) (N := 2) hx hb hts ju_X0 hown hK hP 1 rfl rfl 0 (by decide) (hts _ jq_5_12) (fun _ h9 => h9) rfl dX0_forgetOldest_35 ?_
    refine lv_iload_n hx hb dX0_forgetOldest_38 rfl (lv_at hl 2 rfl) ?_
    refine lv_iconst (v := 1) hx hb dX0_forgetOldest_39 (by decide) ?_
    refine lv_iadd hx hb dX0_forgetOldest_40 ?_
    rw [e1]
    refine lv_aload_n hx hb dX0_forgetOldest_41 rfl (lv_at hl 0 rfl) ?_
    obtain ⟨f2, h2⟩ := wSeas_head B G S (hg j)
    obtain ⟨q2, hq2⟩ := List.getElem?_of_mem (List.mem_append_right (wInp (B 9) G (S 9)) h2)
    refine va_astq (D := D) (v := B (g j) 0) hx hb hK hP hD hS 2 2 (q2 + 3) 8 rfl rfl hq2 rfl (vp_in_nI (by omega) (by omega)) dX0_forgetOldest_42 (fun H locs hP hD hS => ?_)
    rw [nI_clamp (by omega)] at hP hD
    have hf2 : va_up (fun i => some (B (g1 i) 0)) (j + 1) (some (B (g j) 0)) = fun i => some (B (swN j g i) 0) := by
      funext i
      rw [eg1]
      unfold va_up swN
      by_cases hi : i = j + 1
      · simp only [hi, if_true]
      · simp only [hi, if_false]
    rw [hf2] at hP hD
    have hP : va_P D vwCl (wTSg B G S (swN j g)) H := hP
    have hD : va_D A (wTSg B G S (swN j g)) := hD
    refine lv_iinc (v := nI (j + 1)) (lv' := [(1, .int (nI (j + 1))), (2, .ref (B (g j) 0)), (0, .ref (B 9 1))]) hx hb dX0_forgetOldest_43 hl (k := 2) rfl e1 (by decide) rfl (fun ls hl => ?_)
    refine lv_goto (tgt := 2) hx hb dX0_forgetOldest_46 (by decide) ?_
    exact ih (j + 1) (by omega) (swN j g) (fun i => swN_lt hg j i) hF ls H locs hP hD hS (lv_sub hl [2, 0] rfl)
set_option maxHeartbeats 4000000 in
set_option maxRecDepth 100000 in
theorem kt_X0_forgetOldest (l : Launch) (D : va_G) (G : Nat → ClassId) (B : Nat → Nat → Nat) (S : Nat → Nat → Nat → Int32) : mM l yX0_forgetOldest (jws yX0_forgetOldest cX0_forgetOldest 3 none) ({ frames := 0, cells := 0, slots := 0, locals := 0 } : Room) [.ref (B 9 1)] D G (wTS B G S) (wTS B G (hRot S)) none := by
  refine mM_of (by decide +kernel) (Nat.le_of_ble_eq_true rfl) (fun p e s m args below meth c ls A C hP hD hA hl => ?_)
  have C : Cx p s m args meth c cX0_forgetOldest 3 RX0 none D G := C
  obtain ⟨hx, hb, hr, hml, hts, hown, hlocks, hK0⟩ := id C
  have hK := hK0.1
  have hS : va_S A s.heap s.heap [] := va_S.rf
  have hl : lv_has ls 3 [(0, .ref (B 9 1))] := hl
  refine lv_iconst (v := 0) hx hb dX0_forgetOldest_0 (by decide) ?_
  refine lv_istore_n (lv' := [(1, .int 0), (0, .ref (B 9 1))]) hx hb dX0_forgetOldest_1 rfl hl (by decide) rfl (fun ls hl => ?_)
  refine L_forgetOldest C B S (rotN 6 0 (fun i => 2 + (i + kof S) % 7)) (fun H locs ls hP hS => ?_) 6 0 rfl (fun i => 2 + (i + kof S) % 7) (fun i => by show 2 + (i + kof S) % 7 < 9; omega) rfl ls s.heap [] hP hD hS (lv_sub hl [1, 0] rfl)
  have hP2 := jArrR (i := 2) (g := fun i => some (B (2 + (i + kof (hRot S)) % 7) 0)) hP rfl (fun k hk => by
    rw [kof_rot]
    have h7 : k = 0 ∨ k = 1 ∨ k = 2 ∨ k = 3 ∨ k = 4 ∨ k = 5 ∨ k = 6 := by omega
    have e : rotN 6 0 (fun i => 2 + (i + kof S) % 7) k = 2 + (k + (kof S + 1) % 7) % 7 := by
      rcases h7 with rfl | rfl | rfl | rfl | rfl | rfl | rfl
      · show 2 + (1 + kof S) % 7 = _; omega
      · show 2 + (2 + kof S) % 7 = _; omega
      · show 2 + (3 + kof S) % 7 = _; omega
      · show 2 + (4 + kof S) % 7 = _; omega
      · show 2 + (5 + kof S) % 7 = _; omega
      · show 2 + (6 + kof S) % 7 = _; omega
      · show 2 + (0 + kof S) % 7 = _; omega
    rw [e])
  exact mRetV C dX0_forgetOldest_49 (by rw [wTS_hRot]; exact hP2) hS
theorem jy_X0_close : jY yX0_close cX0_close 1 none 0 := ⟨by decide +kernel, jq_11_14, jq_1_23⟩
set_option maxHeartbeats 4000000 in
set_option maxRecDepth 100000 in
theorem kt_X0_close (l : Launch) (D : va_G) (G : Nat → ClassId) (B : Nat → Nat → Nat) (S : Nat → Nat → Nat → Int32) : mM l yX0_close (jws yX0_close cX0_close 1 none) ({ frames := 1, cells := 0, slots := 0, locals := 30 } : Room) [.ref (B 9 1)] D G (wTS B G S) (wTS B G (hClose S)) none := by
  refine mM_of (by decide +kernel) (Nat.le_of_ble_eq_true rfl) (fun p e s m args below meth c ls A C hP hD hA hl => ?_)
  have C : Cx p s m args meth c cX0_close 1 RX0 none D G := C
  obtain ⟨hx, hb, hr, hml, hts, hown, hlocks, hK0⟩ := id C
  have hK := hK0.1
  have hS : va_S A s.heap s.heap [] := va_S.rf
  have hl : lv_has ls 1 [(0, .ref (B 9 1))] := hl
  refine lv_aload_n hx hb dX0_close_0 rfl (lv_at hl 0 rfl) ?_
  refine va_get (D := D) (ci := 2) (v := .int (S 9 0 4)) (C := RX0) (T := TX0) (N := 2) hx hb hts ju_X0 hown hK hP 1 rfl rfl 1 (by decide) (hts _ jq_8_18) (fun _ h9 => h9) rfl dX0_close_1 ?_
  refine lv_bipush (v := 6) hx hb dX0_close_4 (by decide) ?_
  refine lv_icmp_ge (tgt := 22) hx hb dX0_close_6 (by decide) (fun h0 => ?_) (fun h0 => ?_)
  · refine lv_aload_n hx hb dX0_close_22 rfl (lv_at hl 0 rfl) ?_
    refine jVmV C dX0_close_23 (kt_X0_forgetOldest l D G B S) jy_X0_forgetOldest jq_11_15 jq_11_16 jq_11_17 ⟨rfl, rfl, Nat.le_of_ble_eq_true rfl, Nat.le_of_ble_eq_true rfl⟩ ⟨Nat.zero_le _, Nat.zero_le _⟩ hP hD hA hS (ci := 2) (iw := 1) rfl rfl rfl hl (rest := []) rfl (Nat.le_of_ble_eq_true rfl) (fun H locs hQ hz hkp hS => ?_)
    exact mRetV C dX0_close_26 (by unfold hClose; rw [if_pos h0]; exact hQ) hS
  · refine lv_aload_n hx hb dX0_close_9 rfl (lv_at hl 0 rfl) ?_
    refine lv_dup hx hb dX0_close_10 rfl ?_
    refine va_get (D := D) (ci := 2) (v := .int (S 9 0 4)) (C := RX0) (T := TX0) (N := 2) hx hb hts ju_X0 hown hK hP 1 rfl rfl 1 (by decide) (hts _ jq_8_18) (fun _ h9 => h9) rfl dX0_close_11 ?_
    refine lv_iconst (v := 1) hx hb dX0_close_14 (by decide) ?_
    refine lv_iadd hx hb dX0_close_15 ?_
    refine va_put (D := D) (ci := 2) (v := .int (S 9 0 4 + 1)) (ty := .int) (C := RX0) (T := TX0) (N := 2) hx hb hts ju_X0 tyX0 tyX0_ok nmX0 hown hK hP hD hS 1 rfl rfl 1 (by decide) (hts _ jq_8_18) (fun _ h9 => h9) rfl (by decide +kernel) rfl rfl (Nat.le_of_ble_eq_true rfl) dX0_close_16 (fun H locs hP hD hS => ?_)
    refine lv_goto (tgt := 26) hx hb dX0_close_19 (by decide) ?_
    exact mRetV C dX0_close_26 (by unfold hClose; rw [if_neg h0, wTS_st]; exact hP) hS
theorem jy_X0_open : jY yX0_open cX0_open 2 none 1 := ⟨by decide +kernel, jq_8_17, jq_1_23⟩
set_option maxHeartbeats 4000000 in
set_option maxRecDepth 100000 in
theorem kt_X0_open (l : Launch) (D : va_G) (G : Nat → ClassId) (B : Nat → Nat → Nat) (S : Nat → Nat → Nat → Int32) : mM l yX0_open (jws yX0_open cX0_open 2 none) ({ frames := 5, cells := 0, slots := 0, locals := 190 } : Room) [.ref (B 9 1), .ref (B 0 0)] D G (wTS B G S) (wTS B G (hOpen S)) none := by
  refine mM_of (by decide +kernel) (Nat.le_of_ble_eq_true rfl) (fun p e s m args below meth c ls A C hP hD hA hl => ?_)
  have C : Cx p s m args meth c cX0_open 2 RX0 none D G := C
  obtain ⟨hx, hb, hr, hml, hts, hown, hlocks, hK0⟩ := id C
  have hK := hK0.1
  have hS : va_S A s.heap s.heap [] := va_S.rf
  have hl : lv_has ls 2 [(0, .ref (B 9 1)), (1, .ref (B 0 0))] := hl
  have h9 := ph_lt S (S 9 0 4).toNatClampNeg
  refine lv_aload_n hx hb dX0_open_0 rfl (lv_at hl 0 rfl) ?_
  refine lv_aload_n hx hb dX0_open_1 rfl (lv_at hl 0 rfl) ?_
  refine va_get (D := D) (ci := 2) (v := .int (S 9 0 4)) (C := RX0) (T := TX0) (N := 2) hx hb hts ju_X0 hown hK hP 1 rfl rfl 1 (by decide) (hts _ jq_8_18) (fun _ h9 => h9) rfl dX0_open_2 ?_
  by_cases hi : inb (S 9 0 4) 7 = true
  · refine jVp C dX0_open_5 (k_X0_rowAtIn l D G B S (S 9 0 4) hi) jy_X0_rowAt jq_8_19 jq_8_20 jq_8_21 ⟨rfl, rfl, Nat.le_of_ble_eq_true rfl, Nat.le_of_ble_eq_true rfl⟩ ⟨Nat.zero_le _, Nat.zero_le _⟩ hP (ci := 2) (iw := 1) rfl rfl rfl hl (rest := []) rfl (Nat.le_of_ble_eq_true rfl) ?_
    refine W.eq (g2 := F0 m 8 ls [.ref (B (ph S (S 9 0 4).toNatClampNeg) 0)]) rfl ?_
    refine lv_aload_n hx hb dX0_open_8 rfl (lv_at hl 1 rfl) ?_
    refine jSmV C dX0_open_9 (kc_copySeason l D G (B (ph S (S 9 0 4).toNatClampNeg)) (B 0) (S (ph S (S 9 0 4).toNatClampNeg)) (S 0)) jy_X0_copySeason jq_8_23 jq_9_0 ⟨rfl, rfl, Nat.le_of_ble_eq_true rfl, Nat.le_of_ble_eq_true rfl⟩ ⟨Nat.zero_le _, Nat.zero_le _⟩ (s2TS h9.2 (by omega) hP) (d2TS h9.2 (by omega) (by omega) hD) hA hS hl (rest := []) rfl (Nat.le_of_ble_eq_true rfl) (fun H locs hQ hz hkp hS => ?_)
    exact mRetV C dX0_open_12 (by unfold hOpen; rw [if_pos hi]; exact j2TS h9.2 (by omega) (by omega) hP hD hkp hQ) hS
  · refine jVp C dX0_open_5 (k_X0_rowAtOut l D G B S (S 9 0 4) hi) jy_X0_rowAt jq_8_19 jq_8_20 jq_8_21 ⟨rfl, rfl, Nat.le_of_ble_eq_true rfl, Nat.le_of_ble_eq_true rfl⟩ ⟨Nat.zero_le _, Nat.zero_le _⟩ hP (ci := 2) (iw := 1) rfl rfl rfl hl (rest := []) rfl (Nat.le_of_ble_eq_true rfl) ?_
    refine W.eq (g2 := F0 m 8 ls [.null]) rfl ?_
    refine lv_aload_n hx hb dX0_open_8 rfl (lv_at hl 1 rfl) ?_
    refine jSpV C dX0_open_9 (k_copySeasonN1 l D G (B 0 0)) jy_X0_copySeason jq_8_23 jq_9_0 ⟨rfl, rfl, Nat.le_of_ble_eq_true rfl, Nat.le_of_ble_eq_true rfl⟩ ⟨Nat.zero_le _, Nat.zero_le _⟩ jE hl (rest := []) rfl (Nat.le_of_ble_eq_true rfl) ?_
    exact mRetV C dX0_open_12 (by unfold hOpen; rw [if_neg hi]; exact hP) hS
