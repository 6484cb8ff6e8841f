/-! what only looks at the kept reason and position; undo -/
theorem rel_thr {RS : RM → (Nat → Int32) → Prop} (hL : Loc RS) {S : CS} {M : RM} (h : Rel RS S M) (th : Int32) : Rel RS S (stF M 0 th) := by
  obtain ⟨h0, ⟨n, hn, hn1, hn2, hh⟩, hs, ht, hx⟩ := h
  have e : ∀ x, x ≠ 0 → stF M 0 th 0 x = M 0 x := fun x hx => stF_o hx
  refine ⟨hL _ _ _ (fun k _ => stF_blk) h0, ⟨n, hn, (e 2 (by decide)).trans hn1, hn2, fun i hi => hL _ _ _ (fun k _ => stF_blk) (hh i hi)⟩, ⟨(e 3 (by decide)).trans hs.1, hs.2.imp id (fun q => ⟨q.1, hL _ _ _ (fun k _ => stF_blk) q.2⟩)⟩, ?_, ?_, ?_⟩
  · unfold RlT; rw [e 4 (by decide), e 5 (by decide)]; exact ht
  · rw [e 11 (by decide)]; exact hx.1
  · obtain ⟨len, l1, l2, l3, l4⟩ := hx.2
    exact ⟨len, l1, l2, (e 10 (by decide)).trans l3, fun j hj => by rw [stF_ne (by decide)]; exact l4 j hj⟩
theorem je_reason {RS : RM → (Nat → Int32) → Prop} (hL : Loc RS) : jE_reason (Rel RS) := by
  intro S M v1 h
  have ht := h.2.2.2.1
  rcases ht with ⟨t1, t2⟩ | ⟨t1, t2, a, t3, t4, t5⟩
  · refine ⟨0, (5, 0, S), 0, (0, stF M 0 1), ?_, ?_, Or.inr rfl, ?_, fun q => absurd (show (5 : Int32) = 0 from q) (by decide), rel_thr hL h 1⟩
    · unfold F_X8_reason; rw [if_pos t2]
    · unfold F_X9_reason D_X9_reason_13
      rw [if_pos t1]
      simp only [jlet]
      rw [stF_eq, if_neg (by decide)]
    · show stF M 0 1 0 0 = hk_reason 5
      rw [stF_eq]; rfl
  · have hz : ¬ M 0 4 = 0 := fun q => by
      rw [t3] at q
      have := (zI_eq (b := 0) (by omega) (by omega)).mp q
      omega
    have hm : ¬ S 9 0 1 = -1 := fun q => zI_ne_neg (a := a) (by omega) (by rw [← t3, t1]; exact q)
    have e4 : stF M 0 0 0 4 = M 0 4 := stF_o (by decide)
    have e5 : stF M 0 0 0 5 = M 0 5 := stF_o (by decide)
    by_cases hv : v1 = 0
    · refine ⟨0, (0, S 9 0 1, S), 0, (M 0 4, stF M 0 0), ?_, ?_, Or.inl rfl, ?_, fun _ => t1.symm, rel_thr hL h 0⟩
      · unfold F_X8_reason; rw [if_neg hm, if_pos hv]
      · unfold F_X9_reason D_X9_reason_13
        rw [if_neg hz]
        simp only [jlet]
        rw [stF_eq, if_pos rfl, if_pos hv, e4]
      · show stF M 0 0 0 0 = hk_reason 0
        rw [stF_eq]; rfl
    · refine ⟨0, (0, S 9 0 2, S), 0, (M 0 5, stF M 0 0), ?_, ?_, Or.inl rfl, ?_, fun _ => t2.symm, rel_thr hL h 0⟩
      · unfold F_X8_reason; rw [if_neg hm, if_neg hv]
      · unfold F_X9_reason D_X9_reason_13
        rw [if_neg hz]
        simp only [jlet]
        rw [stF_eq, if_pos rfl, if_neg hv, e5]
      · show stF M 0 0 0 0 = hk_reason 0
        rw [stF_eq]; rfl
theorem je_errorPosition {RS : RM → (Nat → Int32) → Prop} (hL : Loc RS) : jE_errorPosition (Rel RS) := by
  intro S M h
  have hx := h.2.2.2.2.1
  by_cases hp : S 9 0 3 = -1
  · refine ⟨0, (5, 0, S), 0, (0, stF M 0 1), ?_, ?_, Or.inr rfl, ?_, fun q => absurd (show (5 : Int32) = 0 from q) (by decide), rel_thr hL h 1⟩
    · unfold F_X8_errorPosition; rw [if_pos hp]
    · unfold F_X9_errorPosition D_X9_errorPosition_14
      rw [if_pos (hx ▸ hp)]
      simp only [jlet]
      rw [stF_eq, if_neg (by decide)]
    · show stF M 0 1 0 0 = hk_errorPosition 5
      rw [stF_eq]; rfl
  · refine ⟨0, (0, S 9 0 3, S), 0, (M 0 11, stF M 0 0), ?_, ?_, Or.inl rfl, (show stF M 0 0 0 0 = hk_errorPosition 0 by rw [stF_eq]; rfl), fun _ => hx, rel_thr hL h 0⟩
    · unfold F_X8_errorPosition; rw [if_neg hp]
    · unfold F_X9_errorPosition D_X9_errorPosition_14
      rw [if_neg (hx ▸ hp)]
      simp only [jlet]
      rw [stF_eq, if_pos rfl, stF_o (by decide)]
theorem je_undo {RS : RM → (Nat → Int32) → Prop} (hL : Loc RS) : jE_undo (Rel RS) := by
  intro S M h
  have h' := h
  obtain ⟨h0, ⟨n, hn, hn1, hn2, hh⟩, hs, ht, hx⟩ := h'
  by_cases hz : n = 0
  · subst hz
    refine ⟨3000, (5, 0, S), 3000, (0, stF M 0 1), ?_, ?_, Or.inr rfl, ?_, fun q => absurd (show (5 : Int32) = 0 from q) (by decide), rel_thr hL h 1⟩
    · unfold F_X8_undo; rw [hn2, if_neg (by decide)]
    · unfold F_X9_undo D_X9_undo_13
      rw [if_pos (show M 0 2 = 0 from hn1)]
      simp only [jlet]
      rw [stF_eq, if_neg (by decide)]
    · show stF M 0 1 0 0 = hk_undo 5
      rw [stF_eq]; rfl
  · have hpos : (0 : Int32) < nI n := (zI_lt (a := 0) (by omega) (by omega)).mpr (by omega)
    have e1 : nI n - 1 = nI (n - 1) := zI_sub (b := 1) (by omega)
    have hst : hStep S = u1 (stT S 4 (nI (n - 1))) 0 (S (ph S (n - 1))) := by
      unfold hStep
      rw [hn2, if_neg (Int32.not_le.mpr hpos), e1]
      unfold hBack
      have e3 : stT S 4 (nI (n - 1)) 9 0 4 = nI (n - 1) := by rw [stT_9, stF_eq]
      rw [e3, if_pos (zI_inb (by omega) (by omega)), zI_nat (by omega)]
      have hk : kof (stT S 4 (nI (n - 1))) = kof S := kof_congr (by rw [stT_9, stF_ne (by decide)])
      have hp : ph (stT S 4 (nI (n - 1))) (n - 1) = ph S (n - 1) := by unfold ph; rw [hk]
      have h9 := ph_2 S (n - 1)
      rw [hp, stT_ne (by omega)]
    generalize hS5 : u1 (stT S 4 (nI (n - 1))) 0 (S (ph S (n - 1))) = S5 at hst
    have s0 : S5 0 = S (ph S (n - 1)) := by rw [← hS5]; exact u1_eq
    have sj : ∀ j, j ≠ 0 → j ≠ 9 → S5 j = S j := fun j hj h9 => by rw [← hS5, u1_ne hj, stT_ne h9]
    have s9 : S5 9 = stF (S 9) 4 (nI (n - 1)) := by rw [← hS5, u1_ne (by decide), stT_9]
    have hk : kof S5 = kof S := kof_congr (by rw [s9, stF_ne (by decide)])
    have hph : ∀ i, ph S5 i = ph S i := fun i => by unfold ph; rw [hk]
    refine ⟨3000, (0, nI (n - 1), S5), 3000, (nI (n - 1), stF (cpB (stF M 0 0) n 0) 2 (nI (n - 1))), ?_, ?_, Or.inl rfl, ?_, fun _ => rfl, ?_⟩
    · unfold F_X8_undo
      rw [hn2, if_pos hpos]
      simp only [jlet]
      rw [hst, s9, stF_eq]
    · unfold F_X9_undo D_X9_undo_13
      rw [if_neg (show ¬ M 0 2 = 0 from fun q => by rw [hn1] at q; exact hz ((zI_eq (b := 0) (by omega) (by omega)).mp q))]
      simp only [jlet]
      have e2 : stF M 0 0 0 2 = nI n := (stF_o (by decide)).trans hn1
      rw [stF_eq, if_pos rfl, e2, z_copies (v1 := nI n) (v2 := 0) n 0 rfl rfl (by omega) (by omega) (by omega), Option.bind_some]
      have e5 : cpB (stF M 0 0) n 0 0 2 = nI n := by rw [cpB_row (by decide)]; exact e2
      rw [e5, e1, stF_eq]
    · show stF (cpB (stF M 0 0) n 0) 2 (nI (n - 1)) 0 0 = hk_undo 0
      rw [stF_o (by decide), cpB_row (by decide), stF_eq]; rfl
    · have sc : ∀ x, x ≠ 0 → x ≠ 2 → stF (cpB (stF M 0 0) n 0) 2 (nI (n - 1)) 0 x = M 0 x := fun x h0 h2 => by
        rw [stF_o h2, cpB_row (by decide), stF_o h0]
      have b0 : ∀ k, k < 241 → blk (stF (cpB (stF M 0 0) n 0) 2 (nI (n - 1))) 0 k = blk M n k := fun k hk => by rw [stF_blk, cpB_to hk, stF_blk]
      have bi : ∀ b k, b ≠ 0 → k < 241 → blk (stF (cpB (stF M 0 0) n 0) 2 (nI (n - 1))) b k = blk M b k := fun b k hb hk => by rw [stF_blk, cpB_ne hk hb, stF_blk]
      show Rel RS S5 (stF (cpB (stF M 0 0) n 0) 2 (nI (n - 1)))
      refine ⟨?_, ⟨n - 1, by omega, (show stF (cpB (stF M 0 0) n 0) 2 (nI (n - 1)) 0 2 = nI (n - 1) from stF_eq), ?_, fun i hi => ?_⟩, ⟨?_, ?_⟩, ?_, ?_, ?_⟩
      · show RS (S5 0) _
        rw [s0]
        have := hh (n - 1) (by omega)
        rw [Nat.sub_add_cancel (by omega)] at this
        exact hL _ _ _ b0 this
      · show S5 9 0 4 = _
        rw [s9, stF_eq]
      · show RS (S5 (ph S5 i)) _
        have := ph_2 S i
        rw [hph, sj _ (by omega) (by omega)]
        exact hL _ _ _ (fun k hk => bi (i + 1) k (by omega) hk) (hh i (by omega))
      · show _ = S5 9 0 0
        rw [sc 3 (by decide) (by decide), s9, stF_o (by decide)]; exact hs.1
      · show S5 9 0 0 = 0 ∨ (S5 9 0 0 = 1 ∧ RS (S5 1) _)
        rw [s9, stF_o (by decide), sj 1 (by decide) (by decide)]
        exact hs.2.imp id (fun q => ⟨q.1, hL _ _ _ (fun k hk => bi 7 k (by decide) hk) q.2⟩)
      · show RlT S5 _
        unfold RlT
        rw [sc 4 (by decide) (by decide), sc 5 (by decide) (by decide), s9, stF_o (by decide), stF_o (by decide)]
        exact ht
      · show S5 9 0 3 = _
        rw [sc 11 (by decide) (by decide), s9, stF_o (by decide)]; exact hx.1
      · obtain ⟨len, l1, l2, l3, l4⟩ := hx.2
        refine ⟨len, l1, ?_, (sc 10 (by decide) (by decide)).trans l3, fun j hj => ?_⟩
        · show S5 9 0 5 = _
          rw [s9, stF_o (by decide)]; exact l2
        · show S5 9 1 j = _ ∧ isC (S5 9 1 j) = true
          rw [s9, stF_ne (by decide), stF_ne (by decide), cpB_row (by decide), stF_ne (by decide)]; exact l4 j hj
