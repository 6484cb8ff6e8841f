/-! sets of dates: what the reference computes -/
def DC (D A : Nat → Int32) (np nf : Nat) : Prop := (∀ p, p < np → ∃ m, D p = nI m ∧ m < 2 ^ 30 ∧ ∀ d, d < 30 → (m.testBit d = true ↔ ∃ k, k < nf ∧ A (39 + 4 * k + 0) = nI p ∧ A (39 + 4 * k + 2) = nI d)) ∧ (∀ k, k < nf → ∃ p d, p < np ∧ d < 30 ∧ A (39 + 4 * k + 0) = nI p ∧ A (39 + 4 * k + 2) = nI d) ∧ ∀ i j, i < nf → j < nf → i ≠ j → A (39 + 4 * i + 2) = A (39 + 4 * j + 2) → A (39 + 4 * i + 0) ≠ A (39 + 4 * j + 0)
def FstA (A : Nat → Int32) (p i : Nat) (r : Int32) : Prop := (r = -1 ∧ ∀ k, k < i → A (39 + 4 * k + 0) ≠ nI p) ∨ ∃ f, f < 30 ∧ r = nI f ∧ (∃ k, k < i ∧ A (39 + 4 * k + 0) = nI p ∧ A (39 + 4 * k + 2) = nI f) ∧ ∀ k e, k < i → e < 30 → A (39 + 4 * k + 0) = nI p → A (39 + 4 * k + 2) = nI e → f ≤ e
def LstA (A : Nat → Int32) (p i : Nat) (r : Int32) : Prop := (r = -1 ∧ ∀ k, k < i → A (39 + 4 * k + 0) ≠ nI p) ∨ ∃ f, f < 30 ∧ r = nI f ∧ (∃ k, k < i ∧ A (39 + 4 * k + 0) = nI p ∧ A (39 + 4 * k + 2) = nI f) ∧ ∀ k e, k < i → e < 30 → A (39 + 4 * k + 0) = nI p → A (39 + 4 * k + 2) = nI e → e ≤ f
theorem FstA_skip {A : Nat → Int32} {p i : Nat} {r : Int32} (h : FstA A p i r) (hp : A (39 + 4 * i + 0) ≠ nI p) : FstA A p (i + 1) r := by
  rcases h with ⟨a, b⟩ | ⟨f, a, b, ⟨k, c1, c2, c3⟩, e⟩
  · refine Or.inl ⟨a, fun k hk => ?_⟩
    by_cases hki : k = i
    · rw [hki]; exact hp
    · exact b k (by omega)
  · refine Or.inr ⟨f, a, b, ⟨k, by omega, c2, c3⟩, fun k' e' h1 h2 h3 h4 => ?_⟩
    by_cases hki : k' = i
    · rw [hki] at h3; exact absurd h3 hp
    · exact e k' e' (by omega) h2 h3 h4
theorem LstA_skip {A : Nat → Int32} {p i : Nat} {r : Int32} (h : LstA A p i r) (hp : A (39 + 4 * i + 0) ≠ nI p) : LstA A p (i + 1) r := by
  rcases h with ⟨a, b⟩ | ⟨f, a, b, ⟨k, c1, c2, c3⟩, e⟩
  · refine Or.inl ⟨a, fun k hk => ?_⟩
    by_cases hki : k = i
    · rw [hki]; exact hp
    · exact b k (by omega)
  · refine Or.inr ⟨f, a, b, ⟨k, by omega, c2, c3⟩, fun k' e' h1 h2 h3 h4 => ?_⟩
    by_cases hki : k' = i
    · rw [hki] at h3; exact absurd h3 hp
    · exact e k' e' (by omega) h2 h3 h4
section RD
variable {N : Nat} {M : RM} {D : Nat → Int32} {np nf : Nat}
theorem r_first (hN : 30 < N) (hnf : nf ≤ 24) (h38 : M 1 38 = nI nf) (hD : DC D (M 1) np nf) (p : Nat) (hp : p < 8) : ∃ r, F_X9_firstOf N M (nI p) = some r ∧ FstA (M 1) p nf r := by
  have e38 : M 1 (38 : Int32).toNatClampNeg = nI nf := h38
  unfold F_X9_firstOf
  refine loopI (fun n a i => D_X9_firstOf_4 N M n (nI p) a i) (fun i a => FstA (M 1) p i a) nf (FstA (M 1) p nf) (fun n a ha => ⟨a, ?_, ha⟩) (fun n i a hi ha => Or.inr ?_) nf N 0 (-1) (by omega) (by omega) (Or.inl ⟨rfl, fun k hk => absurd hk (Nat.not_lt_zero k)⟩)
  · show D_X9_firstOf_4 N M (n + 1) (nI p) a (nI nf) = _
    rw [D_X9_firstOf_4, if_pos (by decide), e38, if_pos (ile_t (Nat.le_refl nf) (by omega))]
  · show ∃ a', FstA (M 1) p (i + 1) a' ∧ D_X9_firstOf_4 N M (n + 1) (nI p) a (nI i) = D_X9_firstOf_4 N M n (nI p) a' (nI (i + 1))
    obtain ⟨p', d', hp', hd', q1, q2⟩ := hD.2.1 i hi
    rw [D_X9_firstOf_4, if_pos (by decide), e38, if_neg (ile_f hi (by omega)), z_p (v2 := 0) i 0 rfl rfl (by omega) (by omega), Option.bind_some, z_p (v2 := 2) i 2 rfl rfl (by omega) (by omega)]
    simp only [Option.bind_some]
    rw [zI_succ, q2]
    by_cases hpp : M 1 (39 + 4 * i + 0) = nI p
    · rw [if_pos hpp]
      rcases ha with ⟨a1, a2⟩ | ⟨f, f1, f2, ⟨k, k1, k2, k3⟩, f4⟩
      · rw [if_pos a1]
        refine ⟨nI d', Or.inr ⟨d', hd', rfl, ⟨i, Nat.lt_succ_self i, hpp, q2⟩, fun k e h1 h2 h3 h4 => ?_⟩, rfl⟩
        by_cases hki : k = i
        · rw [hki, q2] at h4
          have := (zI_eq (by omega) (by omega)).mp h4
          omega
        · exact absurd h3 (a2 k (by omega))
      · rw [f2, if_neg (show ¬ nI f = -1 from zI_ne_neg (by omega))]
        by_cases hle : f ≤ d'
        · rw [if_pos (ile_t hle (by omega))]
          refine ⟨nI f, Or.inr ⟨f, f1, rfl, ⟨k, by omega, k2, k3⟩, fun k e h1 h2 h3 h4 => ?_⟩, rfl⟩
          by_cases hki : k = i
          · rw [hki, q2] at h4
            have := (zI_eq (by omega) (by omega)).mp h4
            omega
          · exact f4 k e (by omega) h2 h3 h4
        · rw [if_neg (ile_f (by omega) (by omega))]
          refine ⟨nI d', Or.inr ⟨d', hd', rfl, ⟨i, Nat.lt_succ_self i, hpp, q2⟩, fun k e h1 h2 h3 h4 => ?_⟩, rfl⟩
          by_cases hki : k = i
          · rw [hki, q2] at h4
            have := (zI_eq (by omega) (by omega)).mp h4
            omega
          · have := f4 k e (by omega) h2 h3 h4
            omega
    · rw [if_neg hpp]
      exact ⟨a, FstA_skip ha hpp, rfl⟩
theorem r_last (hN : 30 < N) (hnf : nf ≤ 24) (h38 : M 1 38 = nI nf) (hD : DC D (M 1) np nf) (p : Nat) (hp : p < 8) : ∃ r, F_X9_lastOf N M (nI p) = some r ∧ LstA (M 1) p nf r := by
  have e38 : M 1 (38 : Int32).toNatClampNeg = nI nf := h38
  unfold F_X9_lastOf
  refine loopI (fun n a i => D_X9_lastOf_4 N M n (nI p) a i) (fun i a => LstA (M 1) p i a) nf (LstA (M 1) p nf) (fun n a ha => ⟨a, ?_, ha⟩) (fun n i a hi ha => Or.inr ?_) nf N 0 (-1) (by omega) (by omega) (Or.inl ⟨rfl, fun k hk => absurd hk (Nat.not_lt_zero k)⟩)
  · show D_X9_lastOf_4 N M (n + 1) (nI p) a (nI nf) = _
    rw [D_X9_lastOf_4, if_pos (by decide), e38, if_pos (ile_t (Nat.le_refl nf) (by omega))]
  · show ∃ a', LstA (M 1) p (i + 1) a' ∧ D_X9_lastOf_4 N M (n + 1) (nI p) a (nI i) = D_X9_lastOf_4 N M n (nI p) a' (nI (i + 1))
    obtain ⟨p', d', hp', hd', q1, q2⟩ := hD.2.1 i hi
    rw [D_X9_lastOf_4, if_pos (by decide), e38, if_neg (ile_f hi (by omega)), z_p (v2 := 0) i 0 rfl rfl (by omega) (by omega), Option.bind_some, z_p (v2 := 2) i 2 rfl rfl (by omega) (by omega)]
    simp only [Option.bind_some]
    rw [zI_succ, q2]
    by_cases hpp : M 1 (39 + 4 * i + 0) = nI p
    · rw [if_pos hpp]
      rcases ha with ⟨a1, a2⟩ | ⟨f, f1, f2, ⟨k, k1, k2, k3⟩, f4⟩
      · have hneg : ¬ nI d' ≤ a := by
          rw [a1, Int32.le_iff_toInt_le, zI_int (by omega)]
          have e : (-1 : Int32).toInt = -1 := rfl
          omega
        rw [if_neg hneg]
        refine ⟨nI d', Or.inr ⟨d', hd', rfl, ⟨i, Nat.lt_succ_self i, hpp, q2⟩, fun k e h1 h2 h3 h4 => ?_⟩, rfl⟩
        by_cases hki : k = i
        · rw [hki, q2] at h4
          have := (zI_eq (by omega) (by omega)).mp h4
          omega
        · exact absurd h3 (a2 k (by omega))
      · rw [f2]
        by_cases hle : d' ≤ f
        · rw [if_pos (ile_t hle (by omega))]
          refine ⟨nI f, Or.inr ⟨f, f1, rfl, ⟨k, by omega, k2, k3⟩, fun k e h1 h2 h3 h4 => ?_⟩, rfl⟩
          by_cases hki : k = i
          · rw [hki, q2] at h4
            have := (zI_eq (by omega) (by omega)).mp h4
            omega
          · exact f4 k e (by omega) h2 h3 h4
        · rw [if_neg (ile_f (by omega) (by omega))]
          refine ⟨nI d', Or.inr ⟨d', hd', rfl, ⟨i, Nat.lt_succ_self i, hpp, q2⟩, fun k e h1 h2 h3 h4 => ?_⟩, rfl⟩
          by_cases hki : k = i
          · rw [hki, q2] at h4
            have := (zI_eq (by omega) (by omega)).mp h4
            omega
          · have := f4 k e (by omega) h2 h3 h4
            omega
    · rw [if_neg hpp]
      exact ⟨a, LstA_skip ha hpp, rfl⟩
theorem r_isOn (hN : 30 < N) (hnf : nf ≤ 24) (h38 : M 1 38 = nI nf) {p d m : Nat} (hp : p < 8) (hd : d < 30) (hm : m.testBit d = true ↔ ∃ k, k < nf ∧ M 1 (39 + 4 * k + 0) = nI p ∧ M 1 (39 + 4 * k + 2) = nI d) : F_X9_isOn N M (nI p) (nI d) = some (if m.testBit d = true then 1 else 0) := by
  have e38 : M 1 (38 : Int32).toNatClampNeg = nI nf := h38
  unfold F_X9_isOn
  rcases loopE (fun n i => D_X9_isOn_2 N M n (nI p) (nI d) i) (fun k => M 1 (39 + 4 * k + 0) = nI p ∧ M 1 (39 + 4 * k + 2) = nI d) nf (some 0) (fun _ => some 1)
    (fun n => by
      show D_X9_isOn_2 N M (n + 1) (nI p) (nI d) (nI nf) = _
      rw [D_X9_isOn_2, if_pos (by decide), e38, if_pos (ile_t (Nat.le_refl nf) (by omega))])
    (fun n i hi hP => by
      show D_X9_isOn_2 N M (n + 1) (nI p) (nI d) (nI i) = D_X9_isOn_2 N M n (nI p) (nI d) (nI (i + 1))
      rw [D_X9_isOn_2, if_pos (by decide), e38, if_neg (ile_f hi (by omega)), z_p (v2 := 0) i 0 rfl rfl (by omega) (by omega), Option.bind_some, z_p (v2 := 2) i 2 rfl rfl (by omega) (by omega), Option.bind_some, zI_succ]
      by_cases h1 : M 1 (39 + 4 * i + 0) = nI p
      · rw [if_pos h1, if_neg (fun h2 => hP ⟨h1, h2⟩)]
      · rw [if_neg h1])
    (fun n i hi hP => by
      show D_X9_isOn_2 N M (n + 1) (nI p) (nI d) (nI i) = _
      rw [D_X9_isOn_2, if_pos (by decide), e38, if_neg (ile_f hi (by omega)), z_p (v2 := 0) i 0 rfl rfl (by omega) (by omega), Option.bind_some, z_p (v2 := 2) i 2 rfl rfl (by omega) (by omega), Option.bind_some, if_pos hP.1, if_pos hP.2]) nf N 0 (by omega) (by omega) with ⟨a, b⟩ | ⟨j, _, j1, j2, _, b⟩
  · rw [if_neg (fun q => by
      obtain ⟨k, k1, k2⟩ := hm.mp q
      exact a k (Nat.zero_le k) k1 k2)]
    exact b
  · rw [if_pos (hm.mpr ⟨j, j1, j2⟩)]
    exact b
theorem mod_bit (m d : Nat) : m % 2 ^ d = 0 ↔ ∀ e, e < d → m.testBit e = false := by
  constructor
  · intro h e he
    have h2 := Nat.testBit_mod_two_pow m d e
    rw [h, Nat.zero_testBit, decide_eq_true he, Bool.true_and] at h2
    exact h2.symm
  · intro h
    refine Nat.eq_of_testBit_eq (fun i => ?_)
    rw [Nat.testBit_mod_two_pow, Nat.zero_testBit]
    by_cases hi : i < d
    · rw [h i hi, Bool.and_false]
    · rw [decide_eq_false hi, Bool.false_and]
theorem div_bit (m d : Nat) : m / 2 ^ d = 0 ↔ ∀ e, d ≤ e → m.testBit e = false := by
  constructor
  · intro h e he
    have h2 := Nat.testBit_div_two_pow (n := d) m (e - d)
    rw [h, Nat.zero_testBit, Nat.sub_add_cancel he] at h2
    exact h2.symm
  · intro h
    refine Nat.eq_of_testBit_eq (fun i => ?_)
    rw [Nat.testBit_div_two_pow, Nat.zero_testBit]
    exact h _ (Nat.le_add_left d i)
theorem stN_iff (m d : Nat) : stN m d = true ↔ (∃ e, e < d ∧ m.testBit e = true) ∧ (∃ e, d ≤ e ∧ m.testBit e = true) ∧ m.testBit d = false := by
  unfold stN
  rw [Bool.and_eq_true, Bool.and_eq_true, Bool.not_eq_true', Bool.not_eq_true', Bool.not_eq_true', decide_eq_false_iff_not, decide_eq_false_iff_not, mod_bit, div_bit]
  constructor
  · rintro ⟨h1, h2, h3⟩
    refine ⟨Classical.byContradiction (fun q => h1 (fun e he => ?_)), Classical.byContradiction (fun q => h2 (fun e he => ?_)), h3⟩
    · cases hb : m.testBit e with
      | false => rfl
      | true => exact absurd ⟨e, he, hb⟩ q
    · cases hb : m.testBit e with
      | false => rfl
      | true => exact absurd ⟨e, he, hb⟩ q
  · rintro ⟨⟨e, e1, e2⟩, ⟨f, f1, f2⟩, h3⟩
    exact ⟨fun q => (by rw [q e e1] at e2; cases e2), fun q => (by rw [q f f1] at f2; cases f2), h3⟩
/-- first and last of a set of dates -/
theorem fst_bits {A : Nat → Int32} {p m : Nat} {r : Int32} (hm : ∀ d, d < 30 → (m.testBit d = true ↔ ∃ k, k < nf ∧ A (39 + 4 * k + 0) = nI p ∧ A (39 + 4 * k + 2) = nI d)) (hk : ∀ k, k < nf → ∃ p d, p < np ∧ d < 30 ∧ A (39 + 4 * k + 0) = nI p ∧ A (39 + 4 * k + 2) = nI d) (h : FstA A p nf r) : (r = -1 ∧ ∀ d, d < 30 → m.testBit d = false) ∨ ∃ f, f < 30 ∧ r = nI f ∧ m.testBit f = true ∧ ∀ d, d < f → m.testBit d = false := by
  rcases h with ⟨a, b⟩ | ⟨f, f1, f2, f3, f4⟩
  · refine Or.inl ⟨a, fun d hd => ?_⟩
    cases hb : m.testBit d with
    | false => rfl
    | true =>
      obtain ⟨k, k1, k2, k3⟩ := (hm d hd).mp hb
      exact absurd k2 (b k k1)
  · refine Or.inr ⟨f, f1, f2, (hm f f1).mpr f3, fun d hd => ?_⟩
    cases hb : m.testBit d with
    | false => rfl
    | true =>
      obtain ⟨k, k1, k2, k3⟩ := (hm d (by omega)).mp hb
      have := f4 k d k1 (by omega) k2 k3
      omega
theorem lst_bits {A : Nat → Int32} {p m : Nat} {r : Int32} (hm2 : m < 2 ^ 30) (hm : ∀ d, d < 30 → (m.testBit d = true ↔ ∃ k, k < nf ∧ A (39 + 4 * k + 0) = nI p ∧ A (39 + 4 * k + 2) = nI d)) (h : LstA A p nf r) : (r = -1 ∧ ∀ d, m.testBit d = false) ∨ ∃ f, f < 30 ∧ r = nI f ∧ m.testBit f = true ∧ ∀ d, f < d → m.testBit d = false := by
  have hbig : ∀ d, 30 ≤ d → m.testBit d = false := fun d hd => Nat.testBit_lt_two_pow (Nat.lt_of_lt_of_le hm2 (Nat.pow_le_pow_right (by decide) hd))
  rcases h with ⟨a, b⟩ | ⟨f, f1, f2, f3, f4⟩
  · refine Or.inl ⟨a, fun d => ?_⟩
    by_cases hd : d < 30
    · cases hb : m.testBit d with
      | false => rfl
      | true =>
        obtain ⟨k, k1, k2, k3⟩ := (hm d hd).mp hb
        exact absurd k2 (b k k1)
    · exact hbig d (by omega)
  · refine Or.inr ⟨f, f1, f2, (hm f f1).mpr f3, fun d hd => ?_⟩
    by_cases hd30 : d < 30
    · cases hb : m.testBit d with
      | false => rfl
      | true =>
        obtain ⟨k, k1, k2, k3⟩ := (hm d hd30).mp hb
        have := f4 k d k1 hd30 k2 k3
        omega
    · exact hbig d (by omega)
theorem r_loadOf (hN : 30 < N) (hnp : np ≤ 8) (hnf : nf ≤ 24) (h5 : M 1 5 = nI np) (h38 : M 1 38 = nI nf) (hD : DC D (M 1) np nf) {Z : Nat → Int32} (hZe : ∀ p, p < np → M 1 (6 + 4 * p + 0) = Z p) (hZ : ZOk Z np 9) {d : Nat} (hd : d < 30) : F_X9_loadOf N M (nI d) = some (nI (loadN D Z np d)) := by
  have e5 : M 1 (5 : Int32).toNatClampNeg = nI np := h5
  unfold F_X9_loadOf
  refine loopN (fun n a i => D_X9_loadOf_4 N M n (nI d) a i) (fun i => nI (loadN D Z i d)) np _ (fun n => ?_) (fun n i hi => ?_) np N 0 (by omega) (by omega)
  · show D_X9_loadOf_4 N M (n + 1) (nI d) (nI (loadN D Z np d)) (nI np) = _
    rw [D_X9_loadOf_4, if_pos (by decide), e5, if_pos (ile_t (Nat.le_refl np) (by omega))]
  · show D_X9_loadOf_4 N M (n + 1) (nI d) (nI (loadN D Z i d)) (nI i) = D_X9_loadOf_4 N M n (nI d) (nI (loadN D Z (i + 1) d)) (nI (i + 1))
    obtain ⟨m, hm, hm2, hm3⟩ := hD.1 i hi
    obtain ⟨z, hz, hz2⟩ := hZ i hi
    have hs : loadN D Z (i + 1) d = loadN D Z i d + (if stN m d = true then z else 0) := by
      unfold loadN
      rw [sumN, hm, hz, nv_nI (by omega), nv_nI (by omega)]
    obtain ⟨r1, g1, g2⟩ := r_first (N := N) hN hnf h38 hD i (by omega)
    obtain ⟨r2, g3, g4⟩ := r_last (N := N) hN hnf h38 hD i (by omega)
    have g5 := r_isOn (N := N) (M := M) hN hnf h38 (p := i) (by omega) hd (hm3 d hd)
    rw [D_X9_loadOf_4, if_pos (by decide), e5, if_neg (ile_f hi (by omega)), g1, Option.bind_some, g3, Option.bind_some, g5, Option.bind_some, z_d (v2 := 0) i 0 rfl rfl (by omega) (by omega), Option.bind_some, hZe i hi, hz, zI_succ, Int32.add_zero, zI_add, hs]
    rcases fst_bits hm3 hD.2.1 g2 with ⟨a1, a2⟩ | ⟨f, f1, f2, f3, f4⟩
    · rw [if_pos a1, if_neg (fun q => by
        obtain ⟨⟨e, e1, e2⟩, _, _⟩ := (stN_iff m d).mp q
        rw [a2 e (by omega)] at e2; cases e2)]; rfl
    · rw [f2, if_neg (show ¬ nI f = -1 from zI_ne_neg (by omega))]
      by_cases hfd : d < f
      · rw [if_pos ((zI_lt (by omega) (by omega)).mpr hfd), if_neg (fun q => by
          obtain ⟨⟨e, e1, e2⟩, _, _⟩ := (stN_iff m d).mp q
          rw [f4 e (by omega)] at e2; cases e2)]; rfl
      · rw [if_neg (fun q => hfd ((zI_lt (by omega) (by omega)).mp q))]
        rcases lst_bits hm2 hm3 g4 with ⟨b1, b2⟩ | ⟨l, l1, l2, l3, l4⟩
        · rw [b2 f] at f3; cases f3
        · rw [l2]
          by_cases hld : l < d
          · rw [if_pos ((zI_lt (by omega) (by omega)).mpr hld), if_neg (fun q => by
              obtain ⟨_, ⟨e, e1, e2⟩, _⟩ := (stN_iff m d).mp q
              rw [l4 e (by omega)] at e2; cases e2)]; rfl
          · rw [if_neg (fun q => hld ((zI_lt (by omega) (by omega)).mp q))]
            by_cases hb : m.testBit d = true
            · rw [if_pos hb, if_neg (by decide), if_neg (fun q => by
                obtain ⟨_, _, h3⟩ := (stN_iff m d).mp q
                rw [h3] at hb; cases hb)]; rfl
            · have hb' : m.testBit d = false := by simpa using hb
              have hne : f ≠ d := fun q => hb (by rw [← q]; exact f3)
              rw [if_neg hb, if_pos rfl, if_pos ((stN_iff m d).mpr ⟨⟨f, by omega, f3⟩, ⟨l, by omega, l3⟩, hb'⟩)]
theorem r_crews (hN : 30 < N) (hnp : np ≤ 8) (hnf : nf ≤ 24) (h38 : M 1 38 = nI nf) (hD : DC D (M 1) np nf) {C : Nat → Int32} (hCe : ∀ p, p < np → M 1 (6 + 4 * p + 1) = C p) (hC : ZOk C np 6) {d : Nat} (hd : d < 30) : F_X9_crews N M (nI d) = some (nI (crewN D C np d)) := by
  have e38 : M 1 (38 : Int32).toNatClampNeg = nI nf := h38
  have hsum : sumN (fun k => if (decide (M 1 (39 + 4 * k + 2) = nI d)) = true then nv (C (nv (M 1 (39 + 4 * k + 0)))) else 0) nf = crewN D C np d := by
    unfold crewN
    refine sum_fib (pr := fun k => nv (M 1 (39 + 4 * k + 0))) (g := fun p => nv (C p)) nf (fun p => (nv (D p)).testBit d) (fun k hk hP => ⟨?_, rfl⟩) (fun i j hi hj hP hQ he => ?_) (fun p hp => ?_)
    · obtain ⟨p', d', a1, a2, a3, a4⟩ := hD.2.1 k hk
      show nv (M 1 (39 + 4 * k + 0)) < np
      rw [a3, nv_nI (by omega)]; exact a1
    · refine Classical.byContradiction (fun hne => ?_)
      have h1 := of_decide_eq_true hP
      have h2 := of_decide_eq_true hQ
      obtain ⟨p1, d1, a1, a2, a3, a4⟩ := hD.2.1 i hi
      obtain ⟨p2, d2, b1, b2, b3, b4⟩ := hD.2.1 j hj
      have h3 : nv (M 1 (39 + 4 * i + 0)) = nv (M 1 (39 + 4 * j + 0)) := he
      rw [a3, b3, nv_nI (by omega), nv_nI (by omega)] at h3
      exact hD.2.2 i j hi hj hne (h1.trans h2.symm) (by rw [a3, b3, h3])
    · obtain ⟨m, hm, hm2, hm3⟩ := hD.1 p hp
      show (nv (D p)).testBit d = true ↔ _
      rw [hm, nv_nI (by omega), hm3 d hd]
      constructor
      · rintro ⟨k, k1, k2, k3⟩
        exact ⟨k, k1, decide_eq_true k3, by show nv (M 1 (39 + 4 * k + 0)) = p; rw [k2, nv_nI (by omega)]⟩
      · rintro ⟨k, k1, k2, k3⟩
        obtain ⟨p1, d1, a1, a2, a3, a4⟩ := hD.2.1 k k1
        have k3 : nv (M 1 (39 + 4 * k + 0)) = p := k3
        rw [a3, nv_nI (by omega)] at k3
        exact ⟨k, k1, by rw [a3, k3], of_decide_eq_true k2⟩
  rw [← hsum]
  unfold F_X9_crews
  refine loopN (fun n a i => D_X9_crews_4 N M n (nI d) a i) (fun i => nI (sumN (fun k => if (decide (M 1 (39 + 4 * k + 2) = nI d)) = true then nv (C (nv (M 1 (39 + 4 * k + 0)))) else 0) i)) nf _ (fun n => ?_) (fun n i hi => ?_) nf N 0 (by omega) (by omega)
  · show D_X9_crews_4 N M (n + 1) (nI d) _ (nI nf) = _
    rw [D_X9_crews_4, if_pos (by decide), e38, if_pos (ile_t (Nat.le_refl nf) (by omega))]
  · show D_X9_crews_4 N M (n + 1) (nI d) (nI (sumN (fun k => if (decide (M 1 (39 + 4 * k + 2) = nI d)) = true then nv (C (nv (M 1 (39 + 4 * k + 0)))) else 0) i)) (nI i) = D_X9_crews_4 N M n (nI d) (nI (sumN (fun k => if (decide (M 1 (39 + 4 * k + 2) = nI d)) = true then nv (C (nv (M 1 (39 + 4 * k + 0)))) else 0) (i + 1))) (nI (i + 1))
    obtain ⟨p', d', a1, a2, a3, a4⟩ := hD.2.1 i hi
    obtain ⟨z, hz, hz2⟩ := hC p' a1
    rw [D_X9_crews_4, if_pos (by decide), e38, if_neg (ile_f hi (by omega)), z_p (v2 := 2) i 2 rfl rfl (by omega) (by omega), Option.bind_some, z_p (v2 := 0) i 0 rfl rfl (by omega) (by omega), Option.bind_some, a3, z_d (v2 := 1) p' 1 rfl rfl (by omega) (by omega), Option.bind_some, hCe p' a1, hz, zI_succ, sumN, a3, nv_nI (by omega), hz, nv_nI (by omega), Int32.add_zero]
    by_cases hb : M 1 (39 + 4 * i + 2) = nI d
    · rw [if_pos hb, decide_eq_true hb, if_pos rfl, zI_add]
    · rw [if_neg hb, decide_eq_false hb, if_neg (by decide)]; rfl
theorem r_peak (hN : 30 < N) (hnp : np ≤ 8) (hnf : nf ≤ 24) (h5 : M 1 5 = nI np) (h38 : M 1 38 = nI nf) (hD : DC D (M 1) np nf) {Z : Nat → Int32} (hZe : ∀ p, p < np → M 1 (6 + 4 * p + 0) = Z p) (hZ : ZOk Z np 9) : F_X9_peakNow N M = some (nI (maxN (loadN D Z np) 30)) := by
  unfold F_X9_peakNow
  have hb : ∀ i, maxN (loadN D Z np) i ≤ 72 := fun i => maxN_bd (fun k _ => loadN_bd hnp hZ)
  refine loopN (fun n a i => D_X9_peakNow_4 N M n a i) (fun i => nI (maxN (loadN D Z np) i)) 30 _ (fun n => ?_) (fun n i hi => ?_) 30 N 0 (by omega) (by omega)
  · show D_X9_peakNow_4 N M (n + 1) (nI (maxN (loadN D Z np) 30)) (nI 30) = _
    rw [D_X9_peakNow_4, if_pos (by decide)]
  · show D_X9_peakNow_4 N M (n + 1) (nI (maxN (loadN D Z np) i)) (nI i) = D_X9_peakNow_4 N M n (nI (maxN (loadN D Z np) (i + 1))) (nI (i + 1))
    have h1 := hb i
    have h3 := loadN_bd (D := D) (d := i) hnp hZ
    rw [D_X9_peakNow_4, if_neg (show ¬ (30 : Int32) ≤ nI i from ile_f (a := 30) hi (by omega)), r_loadOf hN hnp hnf h5 h38 hD hZe hZ hi, Option.bind_some, zI_succ, maxN]
    by_cases q : maxN (loadN D Z np) i < loadN D Z np i
    · rw [if_pos q, if_neg (ile_f q (by omega))]
    · rw [if_neg q, if_pos (ile_t (Nat.le_of_not_lt q) (by omega))]
theorem z_why0 (N : Nat) (M : RM) (a d : Int32) : F_X9_isWhy N M 0 a d = some (0, M) := by
  unfold F_X9_isWhy
  rw [if_pos rfl, if_pos (by decide)]
theorem z_why1 (N : Nat) (M : RM) (a d : Int32) : F_X9_isWhy N M 1 a d = some (1, stF (stF M 7 a) 8 d) := by
  unfold F_X9_isWhy
  rw [if_neg (by decide)]
  simp only [jlet]
  rw [if_pos (by decide)]
theorem r_staff (hN : 30 < N) (hnp : np ≤ 8) (hnf : nf ≤ 24) (h38 : M 1 38 = nI nf) (hD : DC D (M 1) np nf) {C : Nat → Int32} (hCe : ∀ p, p < np → M 1 (6 + 4 * p + 1) = C p) (hC : ZOk C np 6) {st : Nat} (hst : st ≤ 20) (h3 : M 1 3 = nI st) :
    ((∀ d, d < 30 → crewN D C np d ≤ st) ∧ F_X9_lacksStaff N M = some (0, M)) ∨ ∃ d, d < 30 ∧ st < crewN D C np d ∧ (∀ x, x < d → crewN D C np x ≤ st) ∧ F_X9_lacksStaff N M = some (1, stF (stF M 7 2) 8 (nI (crewN D C np d - st))) := by
  have e3 : M 1 (3 : Int32).toNatClampNeg = nI st := h3
  have hb : ∀ d, crewN D C np d ≤ 48 := fun d => crewN_bd hnp hC
  have key := loopE (fun n i => D_X9_lacksStaff_2 N n M i) (fun d => st < crewN D C np d) 30 (some (0, M)) (fun d => some (1, stF (stF M 7 2) 8 (nI (crewN D C np d - st))))
    (fun n => by show D_X9_lacksStaff_2 N (n + 1) M (nI 30) = _; rw [D_X9_lacksStaff_2, if_pos (by decide)])
    (fun n i hi hp => by
      show D_X9_lacksStaff_2 N (n + 1) M (nI i) = D_X9_lacksStaff_2 N n M (nI (i + 1))
      have h1 := hb i
      rw [D_X9_lacksStaff_2, if_neg (show ¬ (30 : Int32) ≤ nI i from ile_f (a := 30) hi (by omega)), r_crews hN hnp hnf h38 hD hCe hC hi, Option.bind_some, if_pos (by decide), e3, if_pos ((isub_le (by omega) (by omega)).mpr (Nat.le_of_not_lt hp)), z_why0, Option.bind_some, if_pos rfl, zI_succ])
    (fun n i hi hp => by
      show D_X9_lacksStaff_2 N (n + 1) M (nI i) = some (1, stF (stF M 7 2) 8 (nI (crewN D C np i - st)))
      have h1 := hb i
      rw [D_X9_lacksStaff_2, if_neg (show ¬ (30 : Int32) ≤ nI i from ile_f (a := 30) hi (by omega)), r_crews hN hnp hnf h38 hD hCe hC hi, Option.bind_some, if_pos (by decide), e3, if_neg (fun q => absurd ((isub_le (by omega) (by omega)).mp q) (by omega)), z_why1, Option.bind_some, if_neg (show ¬ (1 : Int32) = 0 by decide), zI_sub (by omega)]) 30 N 0 (by omega) (by omega)
  rcases key with ⟨a, b⟩ | ⟨j, _, b, e, f, g⟩
  · exact Or.inl ⟨fun d hd => Nat.le_of_not_lt (a d (Nat.zero_le d) hd), b⟩
  · exact Or.inr ⟨j, b, e, fun x hx => Nat.le_of_not_lt (f x (Nat.zero_le x) hx), g⟩
theorem r_room (hN : 30 < N) (hnp : np ≤ 8) (hnf : nf ≤ 24) (h5 : M 1 5 = nI np) (h38 : M 1 38 = nI nf) (hD : DC D (M 1) np nf) {Z : Nat → Int32} (hZe : ∀ p, p < np → M 1 (6 + 4 * p + 0) = Z p) (hZ : ZOk Z np 9) {rm : Nat} (hrm : rm ≤ 99) (h4 : M 1 4 = nI rm) :
    ((∀ d, d < 30 → loadN D Z np d ≤ rm) ∧ F_X9_lacksRoom N M = some (0, M)) ∨ ∃ d, d < 30 ∧ rm < loadN D Z np d ∧ (∀ x, x < d → loadN D Z np x ≤ rm) ∧ F_X9_lacksRoom N M = some (1, stF (stF M 7 3) 8 (nI d)) := by
  have e4 : M 1 (4 : Int32).toNatClampNeg = nI rm := h4
  have hb : ∀ d, loadN D Z np d ≤ 72 := fun d => loadN_bd hnp hZ
  have key := loopE (fun n i => D_X9_lacksRoom_2 N n M i) (fun d => rm < loadN D Z np d) 30 (some (0, M)) (fun d => some (1, stF (stF M 7 3) 8 (nI d)))
    (fun n => by show D_X9_lacksRoom_2 N (n + 1) M (nI 30) = _; rw [D_X9_lacksRoom_2, if_pos (by decide)])
    (fun n i hi hp => by
      show D_X9_lacksRoom_2 N (n + 1) M (nI i) = D_X9_lacksRoom_2 N n M (nI (i + 1))
      have h1 := hb i
      rw [D_X9_lacksRoom_2, if_neg (show ¬ (30 : Int32) ≤ nI i from ile_f (a := 30) hi (by omega)), r_loadOf hN hnp hnf h5 h38 hD hZe hZ hi, Option.bind_some, if_pos (by decide), e4, if_pos (ile_t (Nat.le_of_not_lt hp) (by omega)), z_why0, Option.bind_some, if_pos rfl, zI_succ])
    (fun n i hi hp => by
      show D_X9_lacksRoom_2 N (n + 1) M (nI i) = some (1, stF (stF M 7 3) 8 (nI i))
      have h1 := hb i
      rw [D_X9_lacksRoom_2, if_neg (show ¬ (30 : Int32) ≤ nI i from ile_f (a := 30) hi (by omega)), r_loadOf hN hnp hnf h5 h38 hD hZe hZ hi, Option.bind_some, if_pos (by decide), e4, if_neg (ile_f hp (by omega)), z_why1, Option.bind_some, if_neg (show ¬ (1 : Int32) = 0 by decide)]) 30 N 0 (by omega) (by omega)
  rcases key with ⟨a, b⟩ | ⟨j, _, b, e, f, g⟩
  · exact Or.inl ⟨fun d hd => Nat.le_of_not_lt (a d (Nat.zero_le d) hd), b⟩
  · exact Or.inr ⟨j, b, e, fun x hx => Nat.le_of_not_lt (f x (Nat.zero_le x) hx), g⟩
end RD
