/-! the law's dates -/
def onB (T : RM) (p d : Nat) : Nat → Bool
  | 0 => false
  | n + 1 => onB T p d n || decide (nv (T 7 n) = p ∧ nv (T 9 n) = d)
theorem onB_iff (T : RM) (p d n : Nat) : onB T p d n = true ↔ ∃ k, k < n ∧ nv (T 7 k) = p ∧ nv (T 9 k) = d := by
  induction n with
  | zero => exact ⟨fun h => (by cases h), fun ⟨k, h, _⟩ => absurd h (Nat.not_lt_zero k)⟩
  | succ n ih =>
    rw [onB, Bool.or_eq_true, ih, decide_eq_true_iff]
    constructor
    · rintro (⟨k, k1, k2⟩ | h)
      · exact ⟨k, by omega, k2⟩
      · exact ⟨n, by omega, h⟩
    · rintro ⟨k, k1, k2⟩
      by_cases h : k = n
      · subst h; exact Or.inr k2
      · exact Or.inl ⟨k, by omega, k2⟩
def bI (b : Bool) : Int32 := if b = true then 1 else 0
theorem bI_1 (b : Bool) : bI b ||| 1 = 1 := by cases b <;> decide
theorem bI_0 (b : Bool) : bI b ||| 0 = bI b := by cases b <;> decide
section LD
variable {N : Nat} {S : CS} {np nf nu nr : Nat}
theorem l_646 (I : Inv (S 0) np nf nu nr) {k488 : (Nat → Nat → Int32) → Int32 → Int32 → Int32 → Int32 → Int32 → Int32 → Int32 → Int32 → Int32 → Int32 → Option Int32} {k548 : (Nat → Nat → Int32) → Int32 → Int32 → Int32 → Int32 → Int32 → Int32 → Int32 → Int32 → Int32 → Int32 → Int32 → Int32 → Int32 → Option Int32} {M : Nat → Nat → Int32} {v2 v3 v4 v5 v6 v7 v8 v9 v10 v13 v14 a b : Int32} {p d : Nat} (hp : p < np) (hd : d < 30) (h : FL2 (nv (S 0 6 p)) a b) :
    (if bI ((nv (S 0 6 p)).testBit d) = 0 then (D_L_law_646 N S k488 k548 M v2 v3 v4 v5 v6 v7 v8 v9 v10 (nI d) v13 v14 (nI p) a b (bI ((nv (S 0 6 p)).testBit d))) else (if nI d < a then none else (if nI d ≤ b then (D_L_law_646 N S k488 k548 M v2 v3 v4 v5 v6 v7 v8 v9 v10 (nI d) v13 v14 (nI p) a b (bI ((nv (S 0 6 p)).testBit d))) else none))) = k548 M v2 v3 v4 v5 v6 v7 v8 v9 v10 (nI d) v13 (v14 + nI (if stN (nv (S 0 6 p)) d = true then nv (S 0 2 p) else 0)) (nI (p + 1)) := by
  have e6 := ((inv_pro I).2.2.2.2 p hp).2
  have hbig : ∀ e, 30 ≤ e → (nv (S 0 6 p)).testBit e = false := fun e he => Nat.testBit_lt_two_pow (Nat.lt_of_lt_of_le e6 (Nat.pow_le_pow_right (by decide) he))
  have y0 := y_d0 (N := N) I hp
  generalize nv (S 0 6 p) = m at h hbig
  have z0 : v14 + nI 0 = v14 := Int32.add_zero v14
  unfold D_L_law_646
  rcases h with ⟨h1, rfl, rfl⟩ | ⟨f, l, f1, l1, f2, l2, h3, rfl, rfl⟩
  · have hs : ¬ stN m d = true := fun hs => by
      obtain ⟨⟨e, e1, e2⟩, -⟩ := (stN_iff m d).mp hs
      rw [h1 e (by omega)] at e2
      cases e2
    rw [h1 d hd, if_pos (show bI false = 0 from rfl), if_pos (show (-1 : Int32) < 0 by decide), if_neg hs, z0, zI_succ]
  · have nf0 : ¬ nI f < 0 := fun q => absurd ((zI_lt (b := 0) (by omega) (by decide)).mp q) (Nat.not_lt_zero f)
    cases hb : m.testBit d with
    | true =>
      obtain ⟨g1, g2⟩ := h3 d hd hb
      have hs : ¬ stN m d = true := fun hs => by
        have := ((stN_iff m d).mp hs).2.2
        rw [hb] at this
        cases this
      have n1 : ¬ nI d < nI f := fun q => absurd ((zI_lt (by omega) (by omega)).mp q) (by omega)
      have n2 : ¬ nI l < nI d := fun q => absurd ((zI_lt (by omega) (by omega)).mp q) (by omega)
      have n3 : ¬ bI true = 0 := by decide
      rw [if_neg n3, if_neg n1, if_pos (ile_t g2 (by omega)), if_neg nf0, if_neg n1, if_neg n2, if_neg n3, if_neg hs, z0, zI_succ]
    | false =>
      have n3 : bI false = 0 := rfl
      rw [if_pos n3, if_neg nf0]
      by_cases g1 : d < f
      · have hs : ¬ stN m d = true := fun hs => by
          obtain ⟨⟨e, e1, e2⟩, -⟩ := (stN_iff m d).mp hs
          have := h3 e (by omega) e2
          omega
        rw [if_pos ((zI_lt (by omega) (by omega)).mpr g1), if_neg hs, z0, zI_succ]
      · have n1 : ¬ nI d < nI f := fun q => g1 ((zI_lt (by omega) (by omega)).mp q)
        rw [if_neg n1]
        by_cases g2 : l < d
        · have hs : ¬ stN m d = true := fun hs => by
            obtain ⟨-, ⟨e, e1, e2⟩, -⟩ := (stN_iff m d).mp hs
            by_cases he : e < 30
            · have := h3 e he e2
              omega
            · rw [hbig e (by omega)] at e2
              cases e2
          rw [if_pos ((zI_lt (by omega) (by omega)).mpr g2), if_neg hs, z0, zI_succ]
        · have n2 : ¬ nI l < nI d := fun q => g2 ((zI_lt (by omega) (by omega)).mp q)
          have hfd : f < d := by
            by_cases e : f = d
            · rw [e, hb] at f2; cases f2
            · omega
          have hs : stN m d = true := (stN_iff m d).mpr ⟨⟨f, hfd, f2⟩, ⟨l, by omega, l2⟩, hb⟩
          rw [if_neg n2, if_pos n3, y0, Option.bind_some, if_pos hs, zI_succ]
theorem l_579 (h24 : 24 < N) (I : Inv (S 0) np nf nu nr) (k488 : (Nat → Nat → Int32) → Int32 → Int32 → Int32 → Int32 → Int32 → Int32 → Int32 → Int32 → Int32 → Int32 → Option Int32) (k548 : (Nat → Nat → Int32) → Int32 → Int32 → Int32 → Int32 → Int32 → Int32 → Int32 → Int32 → Int32 → Int32 → Int32 → Int32 → Int32 → Option Int32) (M : Nat → Nat → Int32) (v2 v4 v5 v6 v7 v8 v9 v10 v13 v14 : Int32) {a b : Int32} {p d : Nat} (hp : p < np) (hd : d < 30) (h : FL2 (nv (S 0 6 p)) a b) :
    D_L_law_579 N S k488 k548 N M v2 (nI nf) v4 v5 v6 v7 v8 v9 v10 (nI d) v13 v14 (nI p) a b 0 0 = k548 M v2 (nI nf) v4 v5 v6 v7 v8 v9 v10 (nI d) v13 (v14 + nI (if stN (nv (S 0 6 p)) d = true then nv (S 0 2 p) else 0)) (nI (p + 1)) := by
  obtain ⟨i1, i2, i3, i4⟩ := inv_cnt I
  have hon : onB (S 0) p d nf = (nv (S 0 6 p)).testBit d := by
    have h1 := (inv_bit I p hp d hd).trans (onB_iff (S 0) p d nf).symm
    cases q : onB (S 0) p d nf with
    | true => exact (h1.mpr q).symm
    | false =>
      cases q2 : (nv (S 0 6 p)).testBit d with
      | true => rw [h1.mp q2] at q; cases q
      | false => rfl
  refine loopN (fun n a' i => D_L_law_579 N S k488 k548 n M v2 (nI nf) v4 v5 v6 v7 v8 v9 v10 (nI d) v13 v14 (nI p) a b a' i) (fun i => bI (onB (S 0) p d i)) nf _ (fun n => ?_) (fun n i hi => ?_) nf N 0 (by omega) (by omega)
  · show D_L_law_579 N S k488 k548 (n + 1) M v2 (nI nf) v4 v5 v6 v7 v8 v9 v10 (nI d) v13 v14 (nI p) a b (bI (onB (S 0) p d nf)) (nI nf) = _
    rw [D_L_law_579, if_pos (ile_t (Nat.le_refl nf) (by omega)), hon]
    exact l_646 I hp hd h
  · show D_L_law_579 N S k488 k548 (n + 1) M v2 (nI nf) v4 v5 v6 v7 v8 v9 v10 (nI d) v13 v14 (nI p) a b (bI (onB (S 0) p d i)) (nI i) = D_L_law_579 N S k488 k548 n M v2 (nI nf) v4 v5 v6 v7 v8 v9 v10 (nI d) v13 v14 (nI p) a b (bI (onB (S 0) p d i || decide (nv (S 0 7 i) = p ∧ nv (S 0 9 i) = d))) (nI (i + 1))
    have e7 := ((inv_per I).1 i hi).2
    have e9 := ((inv_per I).2.2.1 i hi).2
    rw [D_L_law_579, if_neg (ile_f hi (by omega)), y_p0 I hi, Option.bind_some, y_p2 I hi, Option.bind_some, bI_1, bI_0, zI_succ]
    by_cases h7 : nv (S 0 7 i) = p
    · by_cases h9 : nv (S 0 9 i) = d
      · rw [if_pos (show nI (nv (S 0 7 i)) = nI p by rw [h7]), if_pos (show nI (nv (S 0 9 i)) = nI d by rw [h9]), decide_eq_true ⟨h7, h9⟩, Bool.or_true]
        rfl
      · rw [if_pos (show nI (nv (S 0 7 i)) = nI p by rw [h7]), if_neg (ine h9 (by omega) (by omega)), decide_eq_false (fun q => h9 q.2), Bool.or_false]
    · rw [if_neg (ine h7 (by omega) (by omega)), decide_eq_false (fun q => h7 q.1), Bool.or_false]
theorem l_548 (hN : 30 < N) (h24 : 24 < N) (I : Inv (S 0) np nf nu nr) (k488 : (Nat → Nat → Int32) → Int32 → Int32 → Int32 → Int32 → Int32 → Int32 → Int32 → Int32 → Int32 → Int32 → Option Int32) (M : Nat → Nat → Int32) (v4 v5 v6 v7 v8 v9 v10 : Int32) {d C : Nat} (hd : d < 30) (hM : ∀ c, c < 3 → M d c = nI (sdN (S 0) c d nf)) (hC : C ≤ 6) :
    D_L_law_548 N S k488 N M (nI np) (nI nf) v4 v5 v6 v7 v8 v9 v10 (nI d) (nI C) 0 0 = k488 M (nI np) (nI nf) v4 v5 v6 v7 v8 (if v9 < nI (loadN (S 0 6) (S 0 2) np d) then nI (loadN (S 0 6) (S 0 2) np d) else v9) v10 (nI (d + 1)) := by
  obtain ⟨i1, i2, i3, i4⟩ := inv_cnt I
  have hl := inv_lod I d hd
  refine loopN (fun n a i => D_L_law_548 N S k488 n M (nI np) (nI nf) v4 v5 v6 v7 v8 v9 v10 (nI d) (nI C) a i) (fun i => nI (loadN (S 0 6) (S 0 2) i d)) np _ (fun n => ?_) (fun n i hi => ?_) np N 0 (by omega) (by omega)
  · show D_L_law_548 N S k488 (n + 1) M (nI np) (nI nf) v4 v5 v6 v7 v8 v9 v10 (nI d) (nI C) (nI (loadN (S 0 6) (S 0 2) np d)) (nI np) = _
    rw [D_L_law_548, if_pos (ile_t (Nat.le_refl np) (by omega)), y_load hN I hd, Option.bind_some, if_pos rfl, y_a8 I, Option.bind_some, if_neg (show ¬ nI 20 < nI (loadN (S 0 6) (S 0 2) np d) from fun q => absurd ((zI_lt (by decide) (by omega)).mp q) (by omega)), y_a7 I, Option.bind_some, if_pos (ile_t hC (by decide))]
    exact l_735 h24 I k488 M (nI np) (nI nf) v4 v5 v6 v7 v8 _ v10 hd hM
  · show D_L_law_548 N S k488 (n + 1) M (nI np) (nI nf) v4 v5 v6 v7 v8 v9 v10 (nI d) (nI C) (nI (loadN (S 0 6) (S 0 2) i d)) (nI i) = D_L_law_548 N S k488 n M (nI np) (nI nf) v4 v5 v6 v7 v8 v9 v10 (nI d) (nI C) (nI (loadN (S 0 6) (S 0 2) i d + (if stN (nv (S 0 6 i)) d = true then nv (S 0 2 i) else 0))) (nI (i + 1))
    obtain ⟨a, b, h5, h6, hfl⟩ := y_d56 hN I hi
    rw [D_L_law_548, if_neg (ile_f hi (by omega)), h5, Option.bind_some, h6, Option.bind_some, ← zI_add]
    exact l_579 h24 I k488 (D_L_law_548 N S k488 n) M (nI np) v4 v5 v6 v7 v8 v9 v10 (nI C) (nI (loadN (S 0 6) (S 0 2) i d)) hi hd hfl
/-- the crews on a date, by the performances -/
def cwN (T : RM) (d : Nat) : Nat → Nat := sumN (fun k => if nv (T 9 k) = d then nv (T 3 (nv (T 7 k))) else 0)
theorem cw_crew {T : RM} (I : Inv T np nf nu nr) {d : Nat} (hd : d < 30) : cwN T d nf = crewN (T 6) (T 3) np d := by
  unfold crewN
  rw [sumN_congr (g := fun p => sumN (fun k => if nv (T 7 k) = p ∧ nv (T 9 k) = d then nv (T 3 p) else 0) nf) (fun p hp => sum_uniq (Q := fun k => nv (T 7 k) = p ∧ nv (T 9 k) = d) (fun i j hi hj h1 h2 => by
    by_cases hij : i = j
    · exact hij
    · exact absurd (h1.1.trans h2.1.symm) (inv_apt I i j hi hj hij (h1.2.trans h2.2.symm)).2) (b := (nv (T 6 p)).testBit d = true) (inv_bit I p hp d hd) (nv (T 3 p)))]
  exact (sum_parts (P := fun k => nv (T 7 k)) (fun k hk => ((inv_per I).1 k hk).2) (fun k => nv (T 9 k) = d) (fun p _ => nv (T 3 p))).symm
theorem l_504 (hN : 30 < N) (h24 : 24 < N) (I : Inv (S 0) np nf nu nr) (k488 : (Nat → Nat → Int32) → Int32 → Int32 → Int32 → Int32 → Int32 → Int32 → Int32 → Int32 → Int32 → Int32 → Option Int32) (M : Nat → Nat → Int32) (v4 v5 v6 v7 v8 v9 v10 : Int32) {d : Nat} (hd : d < 30) (hM : ∀ c, c < 3 → M d c = nI (sdN (S 0) c d nf)) :
    D_L_law_504 N S k488 N M (nI np) (nI nf) v4 v5 v6 v7 v8 v9 v10 (nI d) 0 0 0 = k488 M (nI np) (nI nf) v4 v5 v6 v7 v8 (if v9 < nI (loadN (S 0 6) (S 0 2) np d) then nI (loadN (S 0 6) (S 0 2) np d) else v9) v10 (nI (d + 1)) := by
  obtain ⟨i1, i2, i3, i4⟩ := inv_cnt I
  refine loopN (fun n a i => D_L_law_504 N S k488 n M (nI np) (nI nf) v4 v5 v6 v7 v8 v9 v10 (nI d) a 0 i) (fun i => nI (cwN (S 0) d i)) nf _ (fun n => ?_) (fun n i hi => ?_) nf N 0 (by omega) (by omega)
  · show D_L_law_504 N S k488 (n + 1) M (nI np) (nI nf) v4 v5 v6 v7 v8 v9 v10 (nI d) (nI (cwN (S 0) d nf)) 0 (nI nf) = _
    rw [D_L_law_504, if_pos (ile_t (Nat.le_refl nf) (by omega))]
    exact l_548 hN h24 I k488 M v4 v5 v6 v7 v8 v9 v10 hd hM (by rw [cw_crew I hd]; exact inv_crw I d hd)
  · show D_L_law_504 N S k488 (n + 1) M (nI np) (nI nf) v4 v5 v6 v7 v8 v9 v10 (nI d) (nI (cwN (S 0) d i)) 0 (nI i) = D_L_law_504 N S k488 n M (nI np) (nI nf) v4 v5 v6 v7 v8 v9 v10 (nI d) (nI (cwN (S 0) d i + (if nv (S 0 9 i) = d then nv (S 0 3 (nv (S 0 7 i))) else 0))) 0 (nI (i + 1))
    have e7 := ((inv_per I).1 i hi).2
    have e9 := ((inv_per I).2.2.1 i hi).2
    rw [D_L_law_504, if_neg (ile_f hi (by omega)), y_p2 I hi, Option.bind_some, y_p0 I hi, Option.bind_some, y_d1 I e7, Option.bind_some, zI_succ, zI_add]
    by_cases h9 : nv (S 0 9 i) = d
    · rw [if_pos (show nI (nv (S 0 9 i)) = nI d by rw [h9]), if_pos h9]
    · rw [if_neg (ine h9 (by omega) (by omega)), if_neg h9]
      rfl
theorem l_488 (hN : 30 < N) (h24 : 24 < N) (I : Inv (S 0) np nf nu nr) (M : Nat → Nat → Int32) (hM : ∀ d c, d < 30 → c < 3 → M d c = nI (sdN (S 0) c d nf)) :
    D_L_law_488 N S N M (nI np) (nI nf) (nI nu) (nI (sumN (svN (S 0) 0) nf)) (nI (sumN (svN (S 0) 1) nf)) (nI (sumN (svN (S 0) 2) nf)) 0 0 (nI nr) 0 = some 1 := by
  obtain ⟨i1, i2, i3, i4⟩ := inv_cnt I
  have hb : ∀ i, i ≤ 30 → maxN (loadN (S 0 6) (S 0 2) np) i ≤ 20 := fun i hi => maxN_bd (fun k hk => inv_lod I k (by omega))
  refine loopN (fun n a i => D_L_law_488 N S n M (nI np) (nI nf) (nI nu) (nI (sumN (svN (S 0) 0) nf)) (nI (sumN (svN (S 0) 1) nf)) (nI (sumN (svN (S 0) 2) nf)) 0 a (nI nr) i) (fun i => nI (maxN (loadN (S 0 6) (S 0 2) np) i)) 30 _ (fun n => ?_) (fun n i hi => ?_) 30 N 0 (by omega) (by omega)
  · show D_L_law_488 N S (n + 1) M (nI np) (nI nf) (nI nu) (nI (sumN (svN (S 0) 0) nf)) (nI (sumN (svN (S 0) 1) nf)) (nI (sumN (svN (S 0) 2) nf)) 0 (nI (maxN (loadN (S 0 6) (S 0 2) np) 30)) (nI nr) (nI 30) = some 1
    rw [D_L_law_488, if_pos (by decide)]
    exact l_796 hN h24 I M
  · show D_L_law_488 N S (n + 1) M (nI np) (nI nf) (nI nu) (nI (sumN (svN (S 0) 0) nf)) (nI (sumN (svN (S 0) 1) nf)) (nI (sumN (svN (S 0) 2) nf)) 0 (nI (maxN (loadN (S 0 6) (S 0 2) np) i)) (nI nr) (nI i) = D_L_law_488 N S n M (nI np) (nI nf) (nI nu) (nI (sumN (svN (S 0) 0) nf)) (nI (sumN (svN (S 0) 1) nf)) (nI (sumN (svN (S 0) 2) nf)) 0 (nI (maxN (loadN (S 0 6) (S 0 2) np) (i + 1))) (nI nr) (nI (i + 1))
    have h1 := hb i (by omega)
    have h2 := inv_lod I i hi
    rw [D_L_law_488, if_neg (show ¬ (30 : Int32) ≤ nI i from ile_f (a := 30) hi (by decide)), l_504 hN h24 I (D_L_law_488 N S n) M (nI nu) (nI (sumN (svN (S 0) 0) nf)) (nI (sumN (svN (S 0) 1) nf)) (nI (sumN (svN (S 0) 2) nf)) 0 (nI (maxN (loadN (S 0 6) (S 0 2) np) i)) (nI nr) hi (fun c hc => hM i c hi hc), maxN]
    by_cases q : maxN (loadN (S 0 6) (S 0 2) np) i < loadN (S 0 6) (S 0 2) np i
    · rw [if_pos q, if_pos ((zI_lt (by omega) (by omega)).mpr q)]
    · rw [if_neg q, if_neg (fun w => q ((zI_lt (by omega) (by omega)).mp w))]
end LD
