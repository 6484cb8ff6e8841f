/-! the reference's begins, keeps, ends -/
theorem z_begins {N : Nat} {M : Nat → Nat → Int32} (hN : 241 < N) : F_X9_begins N M = some (cpB M 0 8) := by
  unfold F_X9_begins
  rw [z_copies (v1 := 0) (v2 := 8) 0 8 rfl rfl (by omega) (by omega) hN]
  rfl
theorem stF_ne {M : Nat → Nat → Int32} {k : Nat} {v : Int32} {r : Nat} (h : r ≠ 0) : stF M k v r = M r := u1_ne h
theorem stF_eq {M : Nat → Nat → Int32} {k : Nat} {v : Int32} : stF M k v 0 k = v := by unfold stF; rw [u1_eq, u1_eq]
theorem stF_o {M : Nat → Nat → Int32} {k x : Nat} {v : Int32} (h : x ≠ k) : stF M k v 0 x = M 0 x := by unfold stF; rw [u1_eq, u1_ne h]
theorem stF_blk {M : Nat → Nat → Int32} {k b x : Nat} {v : Int32} : blk (stF M k v) b x = blk M b x := by unfold blk; rw [stF_ne (by decide)]
theorem z_keep11 {N : Nat} (hN : 241 < N) : ∀ (d n i : Nat) (M : Nat → Nat → Int32), i + d = 6 → d < n → 1 ≤ i → ∃ M2, D_X9_keeps_11 N n M (nI i) = D_X9_keeps_41 N (stF M2 2 (M2 0 2 - 1)) ∧ (∀ r, r ≠ 1 → M2 r = M r) ∧ ∀ b k, k < 241 → blk M2 b k = if i ≤ b ∧ b ≤ 5 then blk M (b + 1) k else blk M b k := by
  intro d
  induction d with
  | zero =>
    intro n i M hi hn h1
    obtain ⟨n, rfl⟩ : ∃ m, n = m + 1 := ⟨n - 1, by omega⟩
    obtain rfl : i = 6 := by omega
    refine ⟨M, ?_, fun r _ => rfl, fun b k hk => ?_⟩
    · rw [D_X9_keeps_11, if_pos (by decide)]; rfl
    · rw [if_neg (by omega)]
  | succ d ih =>
    intro n i M hi hn h1
    obtain ⟨n, rfl⟩ : ∃ m, n = m + 1 := ⟨n - 1, by omega⟩
    obtain ⟨M2, e1, e2, e3⟩ := ih n (i + 1) (cpB M (i + 1) i) (by omega) (by omega) (by omega)
    refine ⟨M2, ?_, fun r hr => (e2 r hr).trans (cpB_row hr), fun b k hk => ?_⟩
    · rw [D_X9_keeps_11, if_neg (show ¬ (6 : Int32) ≤ nI i from fun h => absurd ((zI_le (a := 6) (by omega) (by omega)).mp h) (by omega)), z_copies (i + 1) i (zI_succ i) rfl (by omega) (by omega) hN, Option.bind_some, zI_succ]
      exact e1
    · rw [e3 b k hk]
      by_cases hb : i + 1 ≤ b ∧ b ≤ 5
      · rw [if_pos hb, if_pos (by omega), cpB_ne hk (by omega)]
      · rw [if_neg hb]
        by_cases hbi : b = i
        · subst hbi
          rw [if_pos (by omega), cpB_to hk]
        · rw [if_neg (by omega), cpB_ne hk hbi]
/-- what keeps does to the blocks -/
def KeepR (M M2 : Nat → Nat → Int32) (n : Nat) : Prop :=
  (∀ r, r ≠ 0 → r ≠ 1 → M2 r = M r) ∧ (∀ x, x ≠ 2 → M2 0 x = M 0 x) ∧ M2 0 2 = nI (if n = 6 then 6 else n + 1) ∧ (∀ k, k < 241 → blk M2 0 k = blk M 0 k) ∧ (∀ k, k < 241 → blk M2 7 k = blk M 7 k) ∧
  (∀ b k, k < 241 → 1 ≤ b → b ≤ 6 → blk M2 b k = if n = 6 then (if b = 6 then blk M 8 k else blk M (b + 1) k) else (if b = n + 1 then blk M 8 k else blk M b k))
theorem z_keeps {N n : Nat} {M : Nat → Nat → Int32} (hN : 241 < N) (h : M 0 2 = nI n) (hn : n ≤ 6) : ∃ M2, F_X9_keeps N M = some M2 ∧ KeepR M M2 n := by
  unfold F_X9_keeps
  by_cases h6 : n = 6
  · subst h6
    rw [if_pos (show M 0 2 = 6 from h)]
    obtain ⟨M2, e1, e2, e3⟩ := z_keep11 hN 5 N 1 M rfl (by omega) (Nat.le_refl 1)
    rw [show (1 : Int32) = nI 1 from rfl, e1]
    have h2 : M2 0 2 = nI 6 := by rw [e2 0 (by decide)]; exact h
    refine ⟨cpB (stF (stF M2 2 (M2 0 2 - 1)) 2 6) 8 6, ?_, ?_, ?_, ?_, ?_, ?_, ?_⟩
    · unfold D_X9_keeps_41
      simp only [jlet]
      have e5 : (stF M2 2 (M2 0 2 - 1) 0 2 + 1) = 6 := by rw [stF_eq, h2]; decide
      rw [e5, z_copies (v1 := 8) 8 6 rfl (by rw [stF_eq]; rfl) (by omega) (by omega) hN]
      rfl
    · intro r h0 h1
      rw [cpB_row h1, stF_ne h0, stF_ne h0, e2 r h1]
    · intro x hx
      rw [cpB_row (by decide), stF_o hx, stF_o hx, e2 0 (by decide)]
    · rw [cpB_row (by decide), stF_eq]; rfl
    · intro k hk
      rw [cpB_ne hk (by decide), stF_blk, stF_blk, e3 0 k hk, if_neg (by omega)]
    · intro k hk
      rw [cpB_ne hk (by decide), stF_blk, stF_blk, e3 7 k hk, if_neg (by omega)]
    · intro b k hk hb1 hb6
      rw [if_pos rfl]
      by_cases hb : b = 6
      · subst hb
        rw [if_pos rfl, cpB_to hk, stF_blk, stF_blk, e3 8 k hk, if_neg (by omega)]
      · rw [if_neg hb, cpB_ne hk hb, stF_blk, stF_blk, e3 b k hk, if_pos (by omega)]
  · rw [if_neg (show ¬ M 0 2 = 6 from fun h2 => h6 ((zI_eq (b := 6) (by omega) (by omega)).mp (h.symm.trans h2)))]
    refine ⟨cpB (stF M 2 (nI (n + 1))) 8 (n + 1), ?_, ?_, ?_, ?_, ?_, ?_, ?_⟩
    · unfold D_X9_keeps_41
      simp only [jlet]
      rw [h, show nI n + (1 : Int32) = nI (n + 1) from zI_succ n, z_copies (v1 := 8) 8 (n + 1) rfl (by rw [stF_eq]) (by omega) (by omega) hN]
      rfl
    · intro r h0 h1
      rw [cpB_row h1, stF_ne h0]
    · intro x hx
      rw [cpB_row (by decide), stF_o hx]
    · rw [cpB_row (by decide), stF_eq, if_neg h6]
    · intro k hk
      rw [cpB_ne hk (by omega), stF_blk]
    · intro k hk
      rw [cpB_ne hk (by omega), stF_blk]
    · intro b k hk hb1 hb6
      rw [if_neg h6]
      by_cases hb : b = n + 1
      · subst hb
        rw [if_pos rfl, cpB_to hk, stF_blk]
      · rw [if_neg hb, cpB_ne hk hb, stF_blk]
/-- ends, of what was done -/
theorem z_ends0 {N n : Nat} {M : Nat → Nat → Int32} (hN : 241 < N) (h : M 0 2 = nI n) (hn : n ≤ 6) (a b c : Int32) : ∃ M2, F_X9_ends N M 0 a b c = some (M 0 6, M2) ∧ M2 0 0 = 0 ∧ KeepR (stF M 0 0) M2 n := by
  unfold F_X9_ends
  rw [if_pos rfl]
  unfold D_X9_ends_38
  simp only [jlet]
  rw [if_pos trivial]
  obtain ⟨M2, e1, e2⟩ := z_keeps (M := stF M 0 0) hN (by rw [stF_o (by decide)]; exact h) hn
  refine ⟨M2, ?_, ?_, e2⟩
  · rw [e1, Option.bind_some, e2.2.1 6 (by decide), stF_o (by decide)]
  · rw [e2.2.1 0 (by decide), stF_eq]
/-- ends, of what was not -/
theorem z_ends1 {N : Nat} {M : Nat → Nat → Int32} (hN : 241 < N) {w a b c th : Int32} (hw : (w = 1 ∧ th = 1) ∨ (w = 2 ∧ th = a) ∨ (w = 3 ∧ th = b) ∨ (w = 4 ∧ th = c)) : F_X9_ends N M w a b c = some (0, cpB (stF M 0 th) 8 0) := by
  have key : ∀ (w th : Int32), w ≠ 0 → D_X9_ends_38 N M w th = some (0, cpB (stF M 0 th) 8 0) := by
    intro w th hw
    unfold D_X9_ends_38
    simp only [jlet]
    rw [if_neg hw, z_copies (v1 := 8) (v2 := 0) 8 0 rfl rfl (by omega) (by omega) hN]
    rfl
  unfold F_X9_ends
  rcases hw with ⟨rfl, rfl⟩ | ⟨rfl, rfl⟩ | ⟨rfl, rfl⟩ | ⟨rfl, rfl⟩
  · rw [if_neg (by decide), if_pos rfl]; exact key _ _ (by decide)
  · rw [if_neg (by decide), if_neg (by decide), if_pos rfl]; exact key _ _ (by decide)
  · rw [if_neg (by decide), if_neg (by decide), if_neg (by decide), if_pos rfl]; exact key _ _ (by decide)
  · rw [if_neg (by decide), if_neg (by decide), if_neg (by decide), if_neg (by decide)]; exact key _ _ (by decide)
