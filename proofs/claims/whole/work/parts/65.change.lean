/-- a change, tried and not done -/
theorem rel_back {RS : RM → (Nat → Int32) → Prop} (hL : Loc RS) {S : CS} {M M2 : RM} (h : Rel RS S M) (S4 : CS) {n : Nat} (hn : n ≤ 6) (hc : S 9 0 4 = nI n) (e4 : S4 = u1 (hOpen S) 0 (S 0)) (S5 : CS) (h5 : ∀ j, j ≠ 9 → S5 j = S4 j) (h59 : ∀ x, x ≠ 1 → x ≠ 2 → S5 9 0 x = S 9 0 x) (h5r : ∀ r, r ≠ 0 → S5 9 r = S 9 r)
    (hF : FrE (cpB M 0 8) M2) (th : Int32) (hT : RlT S5 (cpB (stF M2 0 th) 8 0)) : Rel RS S5 (cpB (stF M2 0 th) 8 0) := by
  obtain ⟨h0, ⟨m, hm, hm1, hm2, hh⟩, hs, ht, hx⟩ := h
  obtain ⟨hF1, hF2, hF3⟩ := hF
  have hmn : m = n := (zI_eq (by omega) (by omega)).mp (hm2.symm.trans hc)
  subst hmn
  obtain ⟨o1, o2, o3, o4, o5⟩ := open_rest (T := S 0) hn hc
  rw [← e4] at o1 o2 o3 o4 o5
  have b0 : ∀ k, k < 241 → blk (cpB (stF M2 0 th) 8 0) 0 k = blk M 0 k := fun k hk => by
    rw [cpB_to hk, stF_blk, hF3 8 k (by omega) (by omega) hk, cpB_to hk]
  have bi : ∀ b k, 1 ≤ b → b ≤ 7 → k < 241 → blk (cpB (stF M2 0 th) 8 0) b k = blk M b k := fun b k h1 h7 hk => by
    rw [cpB_ne hk (by omega), stF_blk, hF3 b k h1 (by omega) hk, cpB_ne hk (by omega)]
  have sc : ∀ x, x ≠ 0 → x ≠ 4 → x ≠ 5 → x ≠ 6 → x ≠ 7 → x ≠ 8 → cpB (stF M2 0 th) 8 0 0 x = M 0 x := fun x h0 h4 h5 h6 h7 h8 => by
    rw [cpB_row (by decide), stF_o h0, hF2 x h4 h5 h6 h7 h8, cpB_row (by decide)]
  have rw2 : cpB (stF M2 0 th) 8 0 2 = M 2 := by
    rw [cpB_row (by decide), stF_ne (by decide), hF1 2 (by decide) (by decide), cpB_row (by decide)]
  have hk9 : kof S5 = kof S := kof_congr (by rw [h5r 9 (by decide)])
  have hph : ∀ i, ph S5 i = ph S i := fun i => by unfold ph; rw [hk9]
  have p9 : ∀ i, ph S i ≠ 9 := fun i => by have := ph_2 S i; omega
  refine ⟨?_, ⟨m, hm, ?_, ?_, fun i hi => ?_⟩, ⟨?_, ?_⟩, hT, ?_, ?_⟩
  · rw [h5 0 (by decide), o3]
    exact hL _ _ _ b0 h0
  · rw [sc 2 (by decide) (by decide) (by decide) (by decide) (by decide) (by decide)]; exact hm1
  · rw [h59 4 (by decide) (by decide)]; exact hm2
  · rw [hph, h5 _ (p9 i), o1 i hi]
    exact hL _ _ _ (fun k hk => bi (i + 1) k (by omega) (by omega) hk) (hh i hi)
  · rw [sc 3 (by decide) (by decide) (by decide) (by decide) (by decide) (by decide), h59 0 (by decide) (by decide)]; exact hs.1
  · rw [h59 0 (by decide) (by decide), h5 1 (by decide), o4]
    exact hs.2.imp id (fun q => ⟨q.1, hL _ _ _ (fun k hk => bi 7 k (by omega) (by omega) hk) q.2⟩)
  · rw [sc 11 (by decide) (by decide) (by decide) (by decide) (by decide) (by decide), h59 3 (by decide) (by decide)]; exact hx.1
  · obtain ⟨len, l1, l2, l3, l4⟩ := hx.2
    refine ⟨len, l1, ?_, ?_, fun j hj => ?_⟩
    · rw [h59 5 (by decide) (by decide)]; exact l2
    · rw [sc 10 (by decide) (by decide) (by decide) (by decide) (by decide) (by decide)]; exact l3
    · rw [h5r 1 (by decide), rw2]; exact l4 j hj
/-- a change that was done -/
theorem rel_done {RS : RM → (Nat → Int32) → Prop} (hL : Loc RS) {S : CS} {M M2 M3 : RM} (h : Rel RS S M) {T : RM} {n : Nat} (hn : n ≤ 6) (hc : S 9 0 4 = nI n) (hF : FrE (cpB M 0 8) M2) (h4 : M2 0 4 = M 0 4) (h5 : M2 0 5 = M 0 5) (hR : RS T (blk M2 0)) (hK : KeepR (stF M2 0 0) M3 n) : Rel RS (hClose (u1 (hOpen S) 0 T)) M3 := by
  obtain ⟨h0, ⟨m, hm, hm1, hm2, hh⟩, hs, ht, hx⟩ := h
  obtain ⟨hF1, hF2, hF3⟩ := hF
  have hmn : m = n := (zI_eq (by omega) (by omega)).mp (hm2.symm.trans hc)
  subst hmn
  obtain ⟨o1, o2, o3, o4, o5⟩ := open_rest (T := T) hn hc
  obtain ⟨k1, k2, k3, k4, k5, k6⟩ := hK
  generalize u1 (hOpen S) 0 T = S4 at o1 o2 o3 o4 o5 ⊢
  have sc : ∀ x, x ≠ 0 → x ≠ 2 → x ≠ 4 → x ≠ 5 → x ≠ 6 → x ≠ 7 → x ≠ 8 → M3 0 x = M 0 x := fun x h0 h2 h4 h5 h6 h7 h8 => by
    rw [k2 x h2, stF_o h0, hF2 x h4 h5 h6 h7 h8, cpB_row (by decide)]
  have rw2 : M3 2 = M 2 := by rw [k1 2 (by decide) (by decide), stF_ne (by decide), hF1 2 (by decide) (by decide), cpB_row (by decide)]
  have c4 : M3 0 4 = M 0 4 := by rw [k2 4 (by decide), stF_o (by decide)]; exact h4
  have c5 : M3 0 5 = M 0 5 := by rw [k2 5 (by decide), stF_o (by decide)]; exact h5
  have bo : ∀ b k, 1 ≤ b → b ≤ 7 → k < 241 → blk (stF M2 0 0) b k = blk M b k := fun b k h1 h7 hk => by
    rw [stF_blk, hF3 b k h1 (by omega) hk, cpB_ne hk (by omega)]
  have b8 : ∀ k, k < 241 → blk (stF M2 0 0) 8 k = blk M 0 k := fun k hk => by
    rw [stF_blk, hF3 8 k (by omega) (by omega) hk, cpB_to hk]
  have b7 : ∀ k, k < 241 → blk M3 7 k = blk M 7 k := fun k hk => by rw [k5 k hk, bo 7 k (by omega) (by omega) hk]
  have p9 : ∀ i, ph S i ≠ 9 := fun i => by have := ph_2 S i; omega
  have c94 : S4 9 0 4 = nI m := by rw [o5]; exact hc
  by_cases h6 : m = 6
  · subst h6
    have e : hClose S4 = hRot S4 := by unfold hClose; rw [c94, if_pos (by decide)]
    rw [e]
    have r9 : ∀ j, j ≠ 9 → hRot S4 j = S4 j := fun j hj => u1_ne hj
    have r90 : ∀ r, r ≠ 9 → hRot S4 9 r = S 9 r := fun r hr => by unfold hRot; rw [u1_eq, u1_ne hr, o5]
    have hk4 : kof S4 = kof S := kof_congr (by rw [o5])
    have hk7 : kof S < 7 := Nat.mod_lt _ (by decide)
    have hkr : kof (hRot S4) = (kof S + 1) % 7 := by
      unfold hRot
      rw [hk4]
      show ((u1 S4 9 (u1 (S4 9) 9 (fun _ => nI ((kof S + 1) % 7)))) 9 9 0).toNatClampNeg % 7 = _
      rw [u1_eq, u1_eq, zI_nat (by omega), Nat.mod_mod]
    have hph : ∀ i, ph (hRot S4) i = ph S (i + 1) := fun i => by unfold ph; rw [hkr]; omega
    refine ⟨?_, ⟨6, by omega, ?_, ?_, fun i hi => ?_⟩, ⟨?_, ?_⟩, ?_, ?_, ?_⟩
    · rw [r9 0 (by decide), o3]; exact hL _ _ _ (fun k hk => by rw [k4 k hk, stF_blk]) hR
    · rw [k3, if_pos rfl]
    · rw [r90 0 (by decide)]; exact hc
    · rw [hph, r9 _ (p9 _)]
      by_cases hi5 : i = 5
      · subst hi5
        rw [o2]
        exact hL _ _ _ (fun k hk => by rw [k6 6 k hk (by omega) (by omega), if_pos rfl, if_pos rfl, b8 k hk]) h0
      · rw [o1 (i + 1) (by omega)]
        exact hL _ _ _ (fun k hk => by rw [k6 (i + 1) k hk (by omega) (by omega), if_pos rfl, if_neg (by omega), bo _ k (by omega) (by omega) hk]) (hh (i + 1) (by omega))
    · rw [sc 3 (by decide) (by decide) (by decide) (by decide) (by decide) (by decide) (by decide), r90 0 (by decide)]; exact hs.1
    · rw [r90 0 (by decide), r9 1 (by decide), o4]
      exact hs.2.imp id (fun q => ⟨q.1, hL _ _ _ b7 q.2⟩)
    · unfold RlT; rw [c4, c5, r90 0 (by decide)]; exact ht
    · rw [sc 11 (by decide) (by decide) (by decide) (by decide) (by decide) (by decide) (by decide), r90 0 (by decide)]; exact hx.1
    · obtain ⟨len, l1, l2, l3, l4⟩ := hx.2
      refine ⟨len, l1, ?_, ?_, fun j hj => ?_⟩
      · rw [r90 0 (by decide)]; exact l2
      · rw [sc 10 (by decide) (by decide) (by decide) (by decide) (by decide) (by decide) (by decide)]; exact l3
      · rw [r90 1 (by decide), rw2]; exact l4 j hj
  · have e : hClose S4 = stT S4 4 (nI (m + 1)) := by
      unfold hClose
      rw [c94, if_neg (show ¬ (6 : Int32) ≤ nI m from fun h => absurd ((zI_le (a := 6) (by omega) (by omega)).mp h) (by omega)), zI_succ]
    rw [e]
    have r9 : ∀ j, j ≠ 9 → stT S4 4 (nI (m + 1)) j = S4 j := fun j hj => stT_ne hj
    have r90 : ∀ r, r ≠ 0 → stT S4 4 (nI (m + 1)) 9 r = S 9 r := fun r hr => by rw [stT_9, stF_ne hr, o5]
    have r00 : ∀ x, x ≠ 4 → stT S4 4 (nI (m + 1)) 9 0 x = S 9 0 x := fun x hx => by rw [stT_9, stF_o hx, o5]
    have hk : kof (stT S4 4 (nI (m + 1))) = kof S := kof_congr (by rw [r90 9 (by decide)])
    have hph : ∀ i, ph (stT S4 4 (nI (m + 1))) i = ph S i := fun i => by unfold ph; rw [hk]
    refine ⟨?_, ⟨m + 1, by omega, ?_, ?_, fun i hi => ?_⟩, ⟨?_, ?_⟩, ?_, ?_, ?_⟩
    · rw [r9 0 (by decide), o3]; exact hL _ _ _ (fun k hk => by rw [k4 k hk, stF_blk]) hR
    · rw [k3, if_neg h6]
    · rw [stT_9, stF_eq]
    · rw [hph, r9 _ (p9 _)]
      by_cases him : i = m
      · subst him
        rw [o2]
        exact hL _ _ _ (fun k hk => by rw [k6 (i + 1) k hk (by omega) (by omega), if_neg h6, if_pos rfl, b8 k hk]) h0
      · rw [o1 i (by omega)]
        exact hL _ _ _ (fun k hk => by rw [k6 (i + 1) k hk (by omega) (by omega), if_neg h6, if_neg (by omega), bo _ k (by omega) (by omega) hk]) (hh i (by omega))
    · rw [sc 3 (by decide) (by decide) (by decide) (by decide) (by decide) (by decide) (by decide), r00 0 (by decide)]; exact hs.1
    · rw [r00 0 (by decide), r9 1 (by decide), o4]
      exact hs.2.imp id (fun q => ⟨q.1, hL _ _ _ b7 q.2⟩)
    · unfold RlT; rw [c4, c5, r00 1 (by decide), r00 2 (by decide)]; exact ht
    · rw [sc 11 (by decide) (by decide) (by decide) (by decide) (by decide) (by decide) (by decide), r00 3 (by decide)]; exact hx.1
    · obtain ⟨len, l1, l2, l3, l4⟩ := hx.2
      refine ⟨len, l1, ?_, ?_, fun j hj => ?_⟩
      · rw [r00 5 (by decide)]; exact l2
      · rw [sc 10 (by decide) (by decide) (by decide) (by decide) (by decide) (by decide) (by decide)]; exact l3
      · rw [r90 1 (by decide), rw2]; exact l4 j hj
