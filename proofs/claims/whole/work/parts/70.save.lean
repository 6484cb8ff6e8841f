/-! save and restore -/
theorem rsea_nf {T : RM} {A : Nat → Int32} (h : RSea T A) : T 0 3 = A 38 := by
  obtain ⟨np, nf, nu, nr, hc, -⟩ := h
  obtain ⟨-, -, -, -, -, -, h1, h2, -⟩ := hc
  rw [tr_lt (by decide)] at h2
  exact h1.trans h2.symm
theorem blk_0 (M : RM) (k : Nat) : blk M 0 k = M 1 k := by
  unfold blk
  rw [Nat.mul_zero, Nat.zero_add]
theorem je_save : jE_save (Rel RSea) := by
  intro S M h
  have h' := h
  obtain ⟨h0, ⟨n, hn, hn1, hn2, hh⟩, hs, ht, hx⟩ := h'
  have hnf := rsea_nf h0
  rw [blk_0] at hnf
  have s0 : stT (u1 S 1 (S 0)) 0 1 0 = S 0 := by rw [stT_ne (by decide), u1_ne (by decide)]
  have s1 : stT (u1 S 1 (S 0)) 0 1 1 = S 0 := by rw [stT_ne (by decide), u1_eq]
  have s9 : stT (u1 S 1 (S 0)) 0 1 9 = stF (S 9) 0 1 := by rw [stT_9, u1_ne (by decide)]
  have sj : ∀ j, 2 ≤ j → j ≠ 9 → stT (u1 S 1 (S 0)) 0 1 j = S j := fun j h1 h2 => by rw [stT_ne h2, u1_ne (by omega)]
  refine ⟨3000, (S 0 0 3, stT (u1 S 1 (S 0)) 0 1), 3000, (M 1 38, cpB (stF (stF M 0 0) 3 1) 0 7), ?_, ?_, hnf, ?_⟩
  · unfold F_X8_save
    simp only [jlet]
    rw [s0]
  · unfold F_X9_save
    simp only [jlet]
    rw [z_copies (v1 := 0) (v2 := 7) 0 7 rfl rfl (by omega) (by omega) (by omega), Option.bind_some, if_pos (by decide)]
    have e : cpB (stF (stF M 0 0) 3 1) 0 7 1 (38 : Int32).toNatClampNeg = M 1 38 := by
      have := cpB_ne (M := stF (stF M 0 0) 3 1) (f := 0) (t := 7) (b := 0) (k := 38) (by decide) (by decide)
      rw [stF_blk, stF_blk, blk_0, blk_0] at this
      exact this
    rw [e]
  · show Rel RSea (stT (u1 S 1 (S 0)) 0 1) (cpB (stF (stF M 0 0) 3 1) 0 7)
    have sc : ∀ x, x ≠ 0 → x ≠ 3 → cpB (stF (stF M 0 0) 3 1) 0 7 0 x = M 0 x := fun x h0 h3 => by rw [cpB_row (by decide), stF_o h3, stF_o h0]
    have bi : ∀ b k, b ≠ 7 → k < 241 → blk (cpB (stF (stF M 0 0) 3 1) 0 7) b k = blk M b k := fun b k hb hk => by rw [cpB_ne hk hb, stF_blk, stF_blk]
    have b7 : ∀ k, k < 241 → blk (cpB (stF (stF M 0 0) 3 1) 0 7) 7 k = blk M 0 k := fun k hk => by rw [cpB_to hk, stF_blk, stF_blk]
    have hk : kof (stT (u1 S 1 (S 0)) 0 1) = kof S := kof_congr (by rw [s9, stF_ne (by decide)])
    have hph : ∀ i, ph (stT (u1 S 1 (S 0)) 0 1) i = ph S i := fun i => by unfold ph; rw [hk]
    refine ⟨?_, ⟨n, hn, (sc 2 (by decide) (by decide)).trans hn1, ?_, fun i hi => ?_⟩, ⟨?_, ?_⟩, ?_, ?_, ?_⟩
    · rw [s0]; exact RSea_loc _ _ _ (fun k hk => bi 0 k (by decide) hk) h0
    · rw [s9, stF_o (by decide)]; exact hn2
    · have h9 := ph_2 S i
      rw [hph, sj _ (by omega) (by omega)]
      exact RSea_loc _ _ _ (fun k hk => bi (i + 1) k (by omega) hk) (hh i hi)
    · rw [cpB_row (by decide), stF_eq, s9, stF_eq]
    · rw [s9, stF_eq, s1]
      exact Or.inr ⟨rfl, RSea_loc _ _ _ b7 h0⟩
    · unfold RlT
      rw [sc 4 (by decide) (by decide), sc 5 (by decide) (by decide), s9, stF_o (by decide), stF_o (by decide)]
      exact ht
    · rw [sc 11 (by decide) (by decide), s9, stF_o (by decide)]; exact hx.1
    · obtain ⟨len, l1, l2, l3, l4⟩ := hx.2
      refine ⟨len, l1, ?_, (sc 10 (by decide) (by decide)).trans l3, fun j hj => ?_⟩
      · rw [s9, stF_o (by decide)]; exact l2
      · rw [s9, stF_ne (by decide), cpB_row (by decide), stF_ne (by decide), stF_ne (by decide)]; exact l4 j hj
theorem je_restore : jE_restore (Rel RSea) := by
  intro S M h
  have h' := h
  obtain ⟨h0, ⟨n, hn, hn1, hn2, hh⟩, hs, ht, hx⟩ := h'
  rcases hs.2 with hz | ⟨ho, h7⟩
  · refine ⟨3000, (3, 0, S), 3000, (0, stF M 0 1), ?_, ?_, Or.inr rfl, ?_, fun q => absurd (show (3 : Int32) = 0 from q) (by decide), rel_thr RSea_loc h 1⟩
    · unfold F_X8_restore; rw [if_pos hz]
    · unfold F_X9_restore D_X9_restore_13
      rw [if_pos (hs.1.trans hz)]
      simp only [jlet]
      rw [stF_eq, if_neg (by decide)]
    · show stF M 0 1 0 0 = hk_restore 3
      rw [stF_eq]; rfl
  · have hnf := rsea_nf h7
    have s0 : stT (u1 S 0 (S 1)) 4 0 0 = S 1 := by rw [stT_ne (by decide), u1_eq]
    have s1 : stT (u1 S 0 (S 1)) 4 0 1 = S 1 := by rw [stT_ne (by decide), u1_ne (by decide)]
    have s9 : stT (u1 S 0 (S 1)) 4 0 9 = stF (S 9) 4 0 := by rw [stT_9, u1_ne (by decide)]
    have b0 : ∀ k, k < 241 → blk (stF (cpB (stF M 0 0) 7 0) 2 0) 0 k = blk M 7 k := fun k hk => by rw [stF_blk, cpB_to hk, stF_blk]
    have bi : ∀ b k, b ≠ 0 → k < 241 → blk (stF (cpB (stF M 0 0) 7 0) 2 0) b k = blk M b k := fun b k hb hk => by rw [stF_blk, cpB_ne hk hb, stF_blk]
    have sc : ∀ x, x ≠ 0 → x ≠ 2 → stF (cpB (stF M 0 0) 7 0) 2 0 0 x = M 0 x := fun x h0 h2 => by rw [stF_o h2, cpB_row (by decide), stF_o h0]
    refine ⟨3000, (0, S 1 0 3, stT (u1 S 0 (S 1)) 4 0), 3000, (blk M 7 38, stF (cpB (stF M 0 0) 7 0) 2 0), ?_, ?_, Or.inl rfl, ?_, fun _ => hnf, ?_⟩
    · unfold F_X8_restore
      rw [if_neg (by rw [ho]; decide)]
      simp only [jlet]
      rw [s0]
    · unfold F_X9_restore D_X9_restore_13
      rw [if_neg (by rw [hs.1, ho]; decide)]
      simp only [jlet]
      rw [stF_eq, if_pos rfl, z_copies (v1 := 7) (v2 := 0) 7 0 rfl rfl (by omega) (by omega) (by omega), Option.bind_some, if_pos (by decide)]
      have e : stF (cpB (stF M 0 0) 7 0) 2 0 1 (38 : Int32).toNatClampNeg = blk M 7 38 := by
        have := b0 38 (by decide)
        rw [blk_0] at this
        exact this
      rw [e]
    · show stF (cpB (stF M 0 0) 7 0) 2 0 0 0 = hk_restore 0
      rw [stF_o (by decide), cpB_row (by decide), stF_eq]; rfl
    · show Rel RSea (stT (u1 S 0 (S 1)) 4 0) (stF (cpB (stF M 0 0) 7 0) 2 0)
      refine ⟨?_, ⟨0, by decide, stF_eq, ?_, fun i hi => absurd hi (Nat.not_lt_zero i)⟩, ⟨?_, ?_⟩, ?_, ?_, ?_⟩
      · rw [s0]; exact RSea_loc _ _ _ b0 h7
      · rw [s9, stF_eq]; rfl
      · rw [sc 3 (by decide) (by decide), s9, stF_o (by decide)]; exact hs.1
      · rw [s9, stF_o (by decide), s1]
        exact Or.inr ⟨ho, RSea_loc _ _ _ (fun k hk => bi 7 k (by decide) hk) h7⟩
      · unfold RlT
        rw [sc 4 (by decide) (by decide), sc 5 (by decide) (by decide), s9, stF_o (by decide), stF_o (by decide)]
        exact ht
      · rw [sc 11 (by decide) (by decide), s9, stF_o (by decide)]; exact hx.1
      · obtain ⟨len, l1, l2, l3, l4⟩ := hx.2
        refine ⟨len, l1, ?_, (sc 10 (by decide) (by decide)).trans l3, fun j hj => ?_⟩
        · rw [s9, stF_o (by decide)]; exact l2
        · rw [s9, stF_ne (by decide), stF_ne (by decide), cpB_row (by decide), stF_ne (by decide)]; exact l4 j hj
