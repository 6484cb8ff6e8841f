/-! numbers that are there; refusals -/
theorem zI_idx {n : Nat} (hn : n < 2 ^ 31) (v : Int32) : jIn v 0 (nI n - 1) = 0 ∨ (jIn v 0 (nI n - 1) = 1 ∧ ∃ k, k < n ∧ v = nI k) := by
  rw [jIn_eq]
  by_cases h : 0 ≤ v ∧ v ≤ nI n - 1
  · rw [if_pos h]
    refine Or.inr ⟨rfl, ?_⟩
    have h1 := Int32.le_iff_toInt_le.mp h.1
    have h2 := Int32.le_iff_toInt_le.mp h.2
    have e0 : (0 : Int32).toInt = 0 := rfl
    have e1 : (1 : Int32).toInt = 1 := rfl
    rw [e0] at h1
    rw [Int32.toInt_sub, zI_int hn, e1, Int.bmod_eq_of_le (by omega) (by omega)] at h2
    refine ⟨v.toInt.toNat, by omega, ?_⟩
    refine Int32.toInt_inj.mp ?_
    rw [zI_int (by omega)]
    omega
  · rw [if_neg h]; exact Or.inl rfl
theorem z_has2 (N : Nat) (T : RM) (v : Int32) : F_X2_has N T v = some (jIn v 0 (T 0 3 - 1)) := by
  unfold F_X2_has
  rw [if_pos (isB_jIn _ _ _)]
theorem z_ref0 (N : Nat) (M : RM) (a d : Int32) : F_X9_isRefused N M 0 a d = some (0, M) := by
  unfold F_X9_isRefused
  rw [if_pos rfl, if_pos (by decide)]
theorem z_ref1 (N : Nat) (M : RM) (a d : Int32) : F_X9_isRefused N M 1 a d = some (1, stF (stF M 4 a) 5 d) := by
  unfold F_X9_isRefused
  rw [if_neg (by decide)]
  simp only [jlet]
  rw [if_pos (by decide)]
theorem FrE_ref (M : RM) (a d : Int32) : FrE M (stF (stF M 4 a) 5 d) :=
  ⟨fun r h0 _ => by rw [stF_ne h0, stF_ne h0], fun x h4 h5 _ _ _ => by rw [stF_o h5, stF_o h4], fun b k _ _ _ => by rw [stF_blk, stF_blk]⟩
