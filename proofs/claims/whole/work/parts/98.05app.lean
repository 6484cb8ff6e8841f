/-! append -/
theorem ch_ok : ∀ c, c < 127 → isC (nI c) = true ∧ vp_nar .char (nI c) = nI c := by decide +kernel
theorem mg1_id {T z : RM} (h : ∀ r, r ≠ 0 → r ≠ 1 → r ≠ 2 → z r = T r) (h0 : ∀ y, y ≠ 5 → y ≠ 6 → y ≠ 7 → z 0 y = T 0 y) : mgX1 T z = z := by
  funext r
  unfold mgX1
  by_cases hr : r = 0
  · subst hr
    funext y
    show cond (Nat.ble 5 y && Nat.ble y 7) (z 0 y) (T 0 y) = z 0 y
    cases hb2 : (Nat.ble 5 y && Nat.ble y 7) with
    | true => rfl
    | false =>
      have hn : ¬ (5 ≤ y ∧ y ≤ 7) := fun q => by
        have e1 : Nat.ble 5 y = true := Nat.ble_eq_true_of_le q.1
        have e2 : Nat.ble y 7 = true := Nat.ble_eq_true_of_le q.2
        rw [e1, e2] at hb2
        exact absurd hb2 (by decide)
      exact (h0 y (by omega) (by omega) (by omega)).symm
  · have hb : Nat.beq r 0 = false := by
      cases hb : Nat.beq r 0 with
      | false => rfl
      | true => exact absurd (Nat.eq_of_beq_eq_true hb) hr
    rw [hb]
    show cond (Nat.ble 1 r && Nat.ble r 2) (z r) (T r) = z r
    cases hb2 : (Nat.ble 1 r && Nat.ble r 2) with
    | true => rfl
    | false =>
      have hn : ¬ (1 ≤ r ∧ r ≤ 2) := fun q => by
        have e1 : Nat.ble 1 r = true := Nat.ble_eq_true_of_le q.1
        have e2 : Nat.ble r 2 = true := Nat.ble_eq_true_of_le q.2
        rw [e1, e2] at hb2
        exact absurd hb2 (by decide)
      exact (h r hr (by omega) (by omega)).symm
/-- the input, and what the parser keeps, may differ -/
theorem rel_inp {S S' : CS} {M M' : RM} (h : Rel RSea S M) (hj : ∀ j, j ≠ 9 → S' j = S j) (h90 : ∀ x, x ≠ 3 → x ≠ 5 → x ≠ 6 → x ≠ 7 → S' 9 0 x = S 9 0 x) (h9 : ∀ r, r ≠ 0 → r ≠ 1 → r ≠ 2 → S' 9 r = S 9 r) (h1 : ∀ k, M' 1 k = M 1 k) (h0 : ∀ x, x ≠ 0 → x ≠ 6 → x ≠ 7 → x ≠ 8 → x ≠ 10 → x ≠ 11 → x ≠ 12 → x ≠ 13 → x ≠ 15 → M' 0 x = M 0 x) (hX : RlX S' M') : Rel RSea S' M' := by
  obtain ⟨g0, ⟨n, hn, hn1, hn2, hh⟩, hs, ht, hx⟩ := h
  have hb : ∀ b k, blk M' b k = blk M b k := fun b k => h1 _
  have hk : kof S' = kof S := kof_congr (by rw [h9 9 (by decide) (by decide) (by decide)])
  have hph : ∀ i, ph S' i = ph S i := fun i => by unfold ph; rw [hk]
  refine ⟨?_, ⟨n, hn, (h0 2 (by decide) (by decide) (by decide) (by decide) (by decide) (by decide) (by decide) (by decide) (by decide)).trans hn1, (h90 4 (by decide) (by decide) (by decide) (by decide)).trans hn2, fun i hi => ?_⟩, ⟨?_, ?_⟩, ?_, hX⟩
  · rw [hj 0 (by decide)]
    exact RSea_loc _ _ _ (fun k _ => hb 0 k) g0
  · have := ph_2 S i
    rw [hph, hj _ (by omega)]
    exact RSea_loc _ _ _ (fun k _ => hb (i + 1) k) (hh i hi)
  · rw [h0 3 (by decide) (by decide) (by decide) (by decide) (by decide) (by decide) (by decide) (by decide) (by decide), h90 0 (by decide) (by decide) (by decide) (by decide)]
    exact hs.1
  · rw [h90 0 (by decide) (by decide) (by decide) (by decide), hj 1 (by decide)]
    exact hs.2.imp id (fun q => ⟨q.1, RSea_loc _ _ _ (fun k _ => hb 7 k) q.2⟩)
  · unfold RlT
    rw [h0 4 (by decide) (by decide) (by decide) (by decide) (by decide) (by decide) (by decide) (by decide) (by decide), h0 5 (by decide) (by decide) (by decide) (by decide) (by decide) (by decide) (by decide) (by decide) (by decide), h90 1 (by decide) (by decide) (by decide) (by decide), h90 2 (by decide) (by decide) (by decide) (by decide)]
    exact ht
theorem je_append : jE_append (Rel RSea) := by
  intro S M v1 h
  have h' := h
  obtain ⟨-, -, -, -, hx3, len, l1, l2, l3, l4⟩ := h'
  by_cases hv : jIn v1 32 126 = 0
  · refine ⟨3000, (2, 0, S), 3000, (0, stF M 0 1), ?_, ?_, Or.inr (Or.inl rfl), ?_, fun q => absurd (show (2 : Int32) = 0 from q) (by decide), rel_thr RSea_loc h 1⟩
    · unfold F_X8_append; rw [hv, if_neg (show ¬ ckArgument 0 = 0 by decide)]; rfl
    · unfold F_X9_append D_X9_append_30
      rw [z_in, Option.bind_some, if_pos hv, jlet_eq, stF_eq, if_neg (show ¬ (1 : Int32) = 0 by decide)]
    · show stF M 0 1 0 0 = hk_append 2
      rw [stF_eq]; rfl
  have hj : jIn v1 32 126 = 1 := by rw [jIn_eq, if_pos (Decidable.not_not.mp (fun q => hv (jIn_0.mpr q)))]
  obtain ⟨c, rfl, cl, ch⟩ := zI_btw (a := 32) (b := 126) (by decide) (by decide) (Decidable.not_not.mp (fun q => hv (jIn_0.mpr q)))
  obtain ⟨k1, k2⟩ := ch_ok c (by omega)
  have hnn : ¬ nI len < 0 := Int32.not_lt.mpr (zI_pos (by omega))
  by_cases h60 : len = 60
  · have hadd : F_X1_add 3000 (S 9) (nI c) = some (0, S 9) := by
      unfold F_X1_add
      rw [l2, if_neg hnn, h60, if_neg (by decide)]
    have hS9 : u1 S 9 (mgX1 (S 9) (S 9)) = S := by rw [mg1_id (fun _ _ _ _ => rfl) (fun _ _ _ _ => rfl), u1_id]
    refine ⟨3000, (3, 0, S), 3000, (0, stF M 0 2), ?_, ?_, Or.inr (Or.inr rfl), ?_, fun q => absurd (show (3 : Int32) = 0 from q) (by decide), rel_thr RSea_loc h 2⟩
    · unfold F_X8_append
      rw [hj, if_pos (show ckArgument 1 = 0 by decide), hadd, Option.bind_some, jlet_eq, if_pos rfl, hS9]
    · unfold F_X9_append D_X9_append_30
      rw [z_in, Option.bind_some, if_neg hv, l3, h60, if_pos (by decide), jlet_eq, stF_eq, if_neg (show ¬ (2 : Int32) = 0 by decide)]
    · show stF M 0 2 0 0 = hk_append 3
      rw [stF_eq]; rfl
  · have hlt : len < 60 := by omega
    have hadd : F_X1_add 3000 (S 9) (nI c) = some (1, stF (stA (S 9) 1 (nI len) (nI c)) 5 (nI (len + 1))) := by
      unfold F_X1_add
      have e : stA (S 9) 1 (nI len) (nI c) 0 5 = nI len := l2
      rw [l2, if_neg hnn, if_pos (show nI len < Int32.ofNat 60 from (zI_lt (b := 60) (by omega) (by omega)).mpr hlt), if_pos (zI_inb (by omega) (by omega)), k2, jlet_eq, jlet_eq, e, zI_succ]
    have hmg : mgX1 (S 9) (stF (stA (S 9) 1 (nI len) (nI c)) 5 (nI (len + 1))) = stF (stA (S 9) 1 (nI len) (nI c)) 5 (nI (len + 1)) := mg1_id (fun r r0 r1 r2 => by rw [stF_ne r0, stA_ne r1]) (fun y y5 _ _ => by rw [stF_o y5, stA_ne (by decide)])
    have e10 : stF M 0 0 0 10 = nI len := (stF_o (by decide)).trans l3
    have s5 : u1 S 9 (stF (stA (S 9) 1 (nI len) (nI c)) 5 (nI (len + 1))) 9 0 5 = nI (len + 1) := by rw [u1_eq, stF_eq]
    refine ⟨3000, (0, nI (len + 1), u1 S 9 (stF (stA (S 9) 1 (nI len) (nI c)) 5 (nI (len + 1)))), 3000, (nI (len + 1), stF (stA (stF M 0 0) 2 (nI len) (nI c)) 10 (nI (len + 1))), ?_, ?_, Or.inl rfl, ?_, fun _ => rfl, ?_⟩
    · unfold F_X8_append
      rw [hj, if_pos (show ckArgument 1 = 0 by decide), hadd, Option.bind_some, jlet_eq, if_neg (show ¬ (1 : Int32) = 0 by decide)]
      dsimp only
      rw [hmg, s5]
    · unfold F_X9_append D_X9_append_30
      have e : stA (stF M 0 0) 2 (nI len) (nI c) 0 10 = nI len := e10
      rw [z_in, Option.bind_some, if_neg hv, l3, if_neg (show ¬ nI len = 60 from ine (b := 60) h60 (by omega) (by omega)), jlet_eq, stF_eq, if_pos rfl, e10, if_pos (zI_inb (by omega) (by omega)), k2, jlet_eq, jlet_eq, e, stF_eq, zI_succ]
    · show stF (stA (stF M 0 0) 2 (nI len) (nI c)) 10 (nI (len + 1)) 0 0 = hk_append 0
      rw [stF_o (by decide)]
      show stF M 0 0 0 0 = _
      rw [stF_eq]; rfl
    · have hA2 : ∀ (X : RM), stA X 2 (nI len) (nI c) 2 = upd (X 2) len (nI c) := fun X => by
        unfold stA
        rw [u1_eq, zI_nat (by omega)]
      have hA : ∀ (X : RM) r, r ≠ 2 → stA X 2 (nI len) (nI c) r = X r := fun X r hr => u1_ne hr
      show Rel RSea (u1 S 9 (stF (stA (S 9) 1 (nI len) (nI c)) 5 (nI (len + 1)))) (stF (stA (stF M 0 0) 2 (nI len) (nI c)) 10 (nI (len + 1)))
      refine rel_inp h (fun j hj => u1_ne hj) (fun x x3 x5 x6 x7 => by rw [u1_eq, stF_o x5, stA_ne (by decide)]) (fun r r0 r1 r2 => by rw [u1_eq, stF_ne r0, stA_ne r1]) (fun k => by rw [stF_1, hA _ 1 (by decide), stF_1]) (fun x x0 x6 x7 x8 x10 x11 x12 x13 x15 => by rw [stF_o x10, hA _ 0 (by decide), stF_o x0]) ⟨?_, len + 1, by omega, ?_, ?_, fun j hj => ?_⟩
      · rw [u1_eq, stF_o (by decide), stA_ne (by decide), stF_o (by decide), hA _ 0 (by decide), stF_o (by decide)]
        exact hx3
      · rw [u1_eq, stF_eq]
      · rw [stF_eq]
      · rw [u1_eq, stF_1, stA_1 (by omega), stF_ne (by decide), hA2, stF_ne (by decide)]
        by_cases hjl : j = len
        · rw [hjl, upd_eq, upd_eq]
          exact ⟨rfl, k1⟩
        · rw [upd_ne hjl, upd_ne hjl]
          exact l4 j (by omega)
