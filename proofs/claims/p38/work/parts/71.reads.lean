/-! what the class answers of such a season -/
section RD
variable {N : Nat} {T : RM} {np nf nu nr : Nat}
theorem inv_cnt (I : Inv T np nf nu nr) : np ≤ 8 ∧ nf ≤ 24 ∧ nu ≤ 10 ∧ nr ≤ 20 := I.1
theorem inv_sca (I : Inv T np nf nu nr) : T 0 0 = nI 6 ∧ T 0 1 = nI 20 ∧ T 0 2 = nI np ∧ T 0 3 = nI nf ∧ T 0 4 = nI nu ∧ T 0 5 = nI nr ∧ ∀ s, s < 3 → T 1 s = nI (40 + 20 * s) := I.2.1
theorem inv_pro (I : Inv T np nf nu nr) : Ok (T 2) np 10 ∧ Ok (T 3) np 7 ∧ Ok (T 4) np 51 ∧ Ok (T 5) np 101 ∧ Ok (T 6) np (2 ^ 30) := I.2.2.1
theorem inv_per (I : Inv T np nf nu nr) : Ok (T 7) nf np ∧ Ok (T 8) nf 3 ∧ Ok (T 9) nf 30 ∧ Ok (T 10) nf 100 ∧ Ok (T 11) nf 100 ∧ Ok (T 12) nf (2 ^ nu) := I.2.2.2.1
theorem inv_sub (I : Inv T np nf nu nr) : Ok (T 13) nu 7 ∧ Ok (T 14) nu 3 := I.2.2.2.2.1
theorem inv_req (I : Inv T np nf nu nr) : Ok (T 15) nr nf ∧ Ok (T 16) nr 100 ∧ Ok (T 17) nr 10 := I.2.2.2.2.2.1
theorem inv_bit (I : Inv T np nf nu nr) : SBit T np nf := I.2.2.2.2.2.2.1
theorem inv_hld (I : Inv T np nf nu nr) : SHld T nf nu := I.2.2.2.2.2.2.2.1
theorem inv_apt (I : Inv T np nf nu nr) : SApt T nf := I.2.2.2.2.2.2.2.2.1
theorem inv_pri (I : Inv T np nf nu nr) : SPri T nr := I.2.2.2.2.2.2.2.2.2.1
theorem inv_crw (I : Inv T np nf nu nr) : SCrw T np := I.2.2.2.2.2.2.2.2.2.2.1
theorem inv_lod (I : Inv T np nf nu nr) : SLod T np := I.2.2.2.2.2.2.2.2.2.2.2
/-- sold, held, free -/
def svN (T : RM) (c k : Nat) : Nat := if c = 0 then nv (T 10 k) else if c = 1 then nv (T 11 k) else freN T k
theorem c_sv {k c : Nat} (I : Inv T np nf nu nr) (hk : k < nf) (hc : c < 3) : F_X6_seatsAt N T (nI k) (nI c) = some (nI (svN T c k)) := c_seatsAt I hk hc
theorem c_all {c : Nat} (hN : 24 < N) (I : Inv T np nf nu nr) (hc : c < 3) : F_X6_seatsOfAll N T (nI c) = some (nI (sumN (svN T c) nf)) := by
  obtain ⟨i1, i2, i3, i4⟩ := inv_cnt I
  have s3 := (inv_sca I).2.2.2.1
  unfold F_X6_seatsOfAll
  refine loopN (fun n a i => D_X6_seatsOfAll_4 N T n (nI c) a i) (fun i => nI (sumN (svN T c) i)) nf _ (fun n => ?_) (fun n i hi => ?_) nf N 0 (by omega) (by omega)
  · show D_X6_seatsOfAll_4 N T (n + 1) (nI c) (nI (sumN (svN T c) nf)) (nI nf) = _
    rw [D_X6_seatsOfAll_4, s3, if_pos (ile_t (Nat.le_refl nf) (by omega))]
  · show D_X6_seatsOfAll_4 N T (n + 1) (nI c) (nI (sumN (svN T c) i)) (nI i) = D_X6_seatsOfAll_4 N T n (nI c) (nI (sumN (svN T c) i + svN T c i)) (nI (i + 1))
    rw [D_X6_seatsOfAll_4, s3, if_neg (ile_f hi (by omega)), c_sv I hi hc, Option.bind_some, zI_add, zI_succ]
/-- takings -/
def tkI (T : RM) (p : Nat) : Nat → Int32 := sumI (fun k => if nv (T 7 k) = p then T 4 p * T 10 k + 4 * T 4 p / 5 * T 11 k else 0)
theorem c_tak {p : Nat} (hN : 24 < N) (I : Inv T np nf nu nr) (hp : p < np) : F_X6_takingsOf N T (nI p) = some (tkI T p nf) := by
  obtain ⟨i1, i2, i3, i4⟩ := inv_cnt I
  have s3 := (inv_sca I).2.2.2.1
  unfold F_X6_takingsOf
  rw [zI_rg (by omega) (by omega)]
  refine loopN (fun n a i => D_X6_takingsOf_17 N T n (nI p) (T 4 p) a i) (fun i => tkI T p i) nf _ (fun n => ?_) (fun n i hi => ?_) nf N 0 (by omega) (by omega)
  · show D_X6_takingsOf_17 N T (n + 1) (nI p) (T 4 p) (tkI T p nf) (nI nf) = _
    rw [D_X6_takingsOf_17, s3, if_pos (ile_t (Nat.le_refl nf) (by omega))]
  · show D_X6_takingsOf_17 N T (n + 1) (nI p) (T 4 p) (tkI T p i) (nI i) = D_X6_takingsOf_17 N T n (nI p) (T 4 p) (tkI T p i + (if nv (T 7 i) = p then T 4 p * T 10 i + 4 * T 4 p / 5 * T 11 i else 0)) (nI (i + 1))
    have e7 := (inv_per I).1 i hi
    rw [D_X6_takingsOf_17, s3, if_neg (ile_f hi (by omega)), zI_rg (by omega) (by omega), zI_rg (by omega) (by omega), zI_rg (by omega) (by omega), zI_succ, jlet_eq]
    by_cases h : nv (T 7 i) = p
    · rw [if_pos (by rw [e7.1, h]), if_pos h, Int32.add_assoc, Int32.mul_comm (T 4 p) 4]
    · rw [if_neg (by rw [e7.1]; exact ine h (by omega) (by omega)), if_neg h, Int32.add_zero]
theorem c_takAll (hN : 24 < N) (I : Inv T np nf nu nr) : F_X6_takingsOfAll N T = some (sumI (fun p => tkI T p nf) np) := by
  obtain ⟨i1, i2, i3, i4⟩ := inv_cnt I
  have s2 := (inv_sca I).2.2.1
  unfold F_X6_takingsOfAll
  refine loopN (fun n a i => D_X6_takingsOfAll_4 N T n a i) (fun i => sumI (fun p => tkI T p nf) i) np _ (fun n => ?_) (fun n i hi => ?_) np N 0 (by omega) (by omega)
  · show D_X6_takingsOfAll_4 N T (n + 1) (sumI (fun p => tkI T p nf) np) (nI np) = _
    rw [D_X6_takingsOfAll_4, s2, if_pos (ile_t (Nat.le_refl np) (by omega))]
  · show D_X6_takingsOfAll_4 N T (n + 1) (sumI (fun p => tkI T p nf) i) (nI i) = D_X6_takingsOfAll_4 N T n (sumI (fun p => tkI T p nf) i + tkI T i nf) (nI (i + 1))
    rw [D_X6_takingsOfAll_4, s2, if_neg (ile_f hi (by omega)), c_tak hN I hi, Option.bind_some, zI_succ]
/-- all seats of a production's performances, and those taken -/
def psN (T : RM) (p : Nat) : Nat → Nat := sumN (fun k => if nv (T 7 k) = p then 40 + 20 * nv (T 8 k) else 0)
def ptN (T : RM) (p : Nat) : Nat → Nat := sumN (fun k => if nv (T 7 k) = p then nv (T 10 k) + nv (T 11 k) else 0)
theorem c_psN {p : Nat} (hN : 24 < N) (I : Inv T np nf nu nr) (hp : p < np) : F_X6_seatsOfProduction N T (nI p) 1 = some (nI (psN T p nf)) := by
  obtain ⟨i1, i2, i3, i4⟩ := inv_cnt I
  have s3 := (inv_sca I).2.2.2.1
  have s6 := (inv_sca I).2.2.2.2.2.2
  unfold F_X6_seatsOfProduction
  refine loopN (fun n a i => D_X6_seatsOfProduction_5 N T n (nI p) 1 a i) (fun i => nI (psN T p i)) nf _ (fun n => ?_) (fun n i hi => ?_) nf N 0 (by omega) (by omega)
  · show D_X6_seatsOfProduction_5 N T (n + 1) (nI p) 1 (nI (psN T p nf)) (nI nf) = _
    rw [D_X6_seatsOfProduction_5, s3, if_pos (ile_t (Nat.le_refl nf) (by omega))]
  · show D_X6_seatsOfProduction_5 N T (n + 1) (nI p) 1 (nI (psN T p i)) (nI i) = D_X6_seatsOfProduction_5 N T n (nI p) 1 (nI (psN T p i + (if nv (T 7 i) = p then 40 + 20 * nv (T 8 i) else 0))) (nI (i + 1))
    have e7 := (inv_per I).1 i hi
    have e8 := (inv_per I).2.1 i hi
    rw [D_X6_seatsOfProduction_5, s3, if_neg (ile_f hi (by omega)), zI_rg (by omega) (by omega), zI_rg (by omega) (by omega), zI_succ, if_neg (show ¬ (1 : Int32) = 0 by decide)]
    by_cases h : nv (T 7 i) = p
    · rw [if_pos (by rw [e7.1, h]), if_pos h]
      conv => lhs; rw [e8.1, zI_rg e8.2 (by decide), s6 _ e8.2]
      rw [zI_add]
    · rw [if_neg (by rw [e7.1]; exact ine h (by omega) (by omega)), if_neg h]
      rfl
theorem c_ptN {p : Nat} (hN : 24 < N) (I : Inv T np nf nu nr) (hp : p < np) : F_X6_seatsOfProduction N T (nI p) 0 = some (nI (ptN T p nf)) := by
  obtain ⟨i1, i2, i3, i4⟩ := inv_cnt I
  have s3 := (inv_sca I).2.2.2.1
  unfold F_X6_seatsOfProduction
  refine loopN (fun n a i => D_X6_seatsOfProduction_5 N T n (nI p) 0 a i) (fun i => nI (ptN T p i)) nf _ (fun n => ?_) (fun n i hi => ?_) nf N 0 (by omega) (by omega)
  · show D_X6_seatsOfProduction_5 N T (n + 1) (nI p) 0 (nI (ptN T p nf)) (nI nf) = _
    rw [D_X6_seatsOfProduction_5, s3, if_pos (ile_t (Nat.le_refl nf) (by omega))]
  · show D_X6_seatsOfProduction_5 N T (n + 1) (nI p) 0 (nI (ptN T p i)) (nI i) = D_X6_seatsOfProduction_5 N T n (nI p) 0 (nI (ptN T p i + (if nv (T 7 i) = p then nv (T 10 i) + nv (T 11 i) else 0))) (nI (i + 1))
    have e7 := (inv_per I).1 i hi
    have e10 := (inv_per I).2.2.2.1 i hi
    have e11 := (inv_per I).2.2.2.2.1 i hi
    have htk : F_X2_taken N T (nI i) = some (nI (nv (T 10 i) + nv (T 11 i))) := by
      unfold F_X2_taken
      rw [zI_rg (by omega) (by omega), zI_rg (by omega) (by omega), ← zI_add, ← e10.1, ← e11.1]
    rw [D_X6_seatsOfProduction_5, s3, if_neg (ile_f hi (by omega)), zI_rg (by omega) (by omega), zI_succ, if_pos rfl, htk, Option.bind_some, zI_add]
    by_cases h : nv (T 7 i) = p
    · rw [if_pos (by rw [e7.1, h]), if_pos h]
    · rw [if_neg (by rw [e7.1]; exact ine h (by omega) (by omega)), if_neg h]
      rfl
/-- the performance on a stage on a date -/
theorem c_find (hN : 24 < N) (I : Inv T np nf nu nr) {s d : Nat} (hs : s < 3) (hd : d < 30) : ((∀ k, k < nf → ¬ (nv (T 8 k) = s ∧ nv (T 9 k) = d)) ∧ F_X2_find N T (nI s) (nI d) = some (-1)) ∨ ∃ k, k < nf ∧ nv (T 8 k) = s ∧ nv (T 9 k) = d ∧ (∀ j, j < nf → nv (T 8 j) = s → nv (T 9 j) = d → j = k) ∧ F_X2_find N T (nI s) (nI d) = some (nI k) := by
  obtain ⟨i1, i2, i3, i4⟩ := inv_cnt I
  have s3 := (inv_sca I).2.2.2.1
  have hst : ∀ n i, i < nf → D_X2_find_2 N T (n + 1) (nI s) (nI d) (nI i) = (if nI (nv (T 8 i)) = nI s then (if nI (nv (T 9 i)) = nI d then some (nI i) else D_X2_find_2 N T n (nI s) (nI d) (nI (i + 1))) else D_X2_find_2 N T n (nI s) (nI d) (nI (i + 1))) := by
    intro n i hi
    rw [D_X2_find_2, s3, if_neg (ile_f hi (by omega)), zI_rg (by omega) (by omega), zI_rg (by omega) (by omega), zI_succ, ← ((inv_per I).2.1 i hi).1, ← ((inv_per I).2.2.1 i hi).1]
  have b8 : ∀ i, i < nf → nv (T 8 i) < 3 := fun i hi => ((inv_per I).2.1 i hi).2
  have b9 : ∀ i, i < nf → nv (T 9 i) < 30 := fun i hi => ((inv_per I).2.2.1 i hi).2
  unfold F_X2_find
  rcases loopE (fun n i => D_X2_find_2 N T n (nI s) (nI d) i) (fun k => nv (T 8 k) = s ∧ nv (T 9 k) = d) nf (some (-1)) (fun k => some (nI k))
    (fun n => by
      show D_X2_find_2 N T (n + 1) (nI s) (nI d) (nI nf) = some (-1)
      rw [D_X2_find_2, s3, if_pos (ile_t (Nat.le_refl nf) (by omega))])
    (fun n i hi hp => by
      show D_X2_find_2 N T (n + 1) (nI s) (nI d) (nI i) = D_X2_find_2 N T n (nI s) (nI d) (nI (i + 1))
      have q8 := b8 i hi
      have q9 := b9 i hi
      rw [hst n i hi]
      by_cases h8 : nv (T 8 i) = s
      · rw [if_pos (by rw [h8]), if_neg (ine (fun h9 => hp ⟨h8, h9⟩) (by omega) (by omega))]
      · rw [if_neg (ine h8 (by omega) (by omega))])
    (fun n i hi hp => by
      show D_X2_find_2 N T (n + 1) (nI s) (nI d) (nI i) = some (nI i)
      rw [hst n i hi, if_pos (by rw [hp.1]), if_pos (by rw [hp.2])]) nf N 0 (by omega) (by omega) with ⟨x, y⟩ | ⟨j, _, x, y, z, w⟩
  · exact Or.inl ⟨fun k hk => x k (Nat.zero_le k) hk, y⟩
  · refine Or.inr ⟨j, x, y.1, y.2, fun i hi h8 h9 => ?_, w⟩
    by_cases hij : i = j
    · exact hij
    · exact absurd (h8.trans y.1.symm) (inv_apt I i j hi x hij (h9.trans y.2.symm)).1
/-- the requests for a performance -/
def rqN (T : RM) (k : Nat) : Nat → Nat := sumN (fun q => if nv (T 15 q) = k then 1 else 0)
theorem c_count {k : Nat} (hN : 24 < N) (I : Inv T np nf nu nr) (hk : k < nf) : F_X4_countFor N T (nI k) = some (nI (rqN T k nr)) := by
  obtain ⟨i1, i2, i3, i4⟩ := inv_cnt I
  have s5 := (inv_sca I).2.2.2.2.2.1
  unfold F_X4_countFor
  refine loopN (fun n a i => D_X4_countFor_4 N T n (nI k) a i) (fun i => nI (rqN T k i)) nr _ (fun n => ?_) (fun n i hi => ?_) nr N 0 (by omega) (by omega)
  · show D_X4_countFor_4 N T (n + 1) (nI k) (nI (rqN T k nr)) (nI nr) = _
    rw [D_X4_countFor_4, s5, if_pos (ile_t (Nat.le_refl nr) (by omega))]
  · show D_X4_countFor_4 N T (n + 1) (nI k) (nI (rqN T k i)) (nI i) = D_X4_countFor_4 N T n (nI k) (nI (rqN T k i + (if nv (T 15 i) = k then 1 else 0))) (nI (i + 1))
    have e15 := (inv_req I).1 i hi
    rw [D_X4_countFor_4, s5, if_neg (ile_f hi (by omega)), zI_rg (by omega) (by omega), zI_succ, zI_succ]
    by_cases h : nv (T 15 i) = k
    · rw [if_pos (by rw [e15.1, h]), if_pos h]
    · rw [if_neg (by rw [e15.1]; exact ine h (by omega) (by omega)), if_neg h]
      rfl
theorem c_find4 {k q : Nat} (hN : 24 < N) (I : Inv T np nf nu nr) (hk : k < nf) (hq : q < rqN T k nr) : ∃ i, i < nr ∧ nv (T 15 i) = k ∧ rqN T k i = q ∧ F_X4_find N T (nI k) (nI q) = some (nI i) := by
  obtain ⟨i1, i2, i3, i4⟩ := inv_cnt I
  have s5 := (inv_sca I).2.2.2.2.2.1
  have hb : ∀ i, i ≤ 20 → rqN T k i ≤ 20 := fun i hi => by
    have : rqN T k i ≤ i * 1 := sumN_bd (fun j _ => by by_cases h : nv (T 15 j) = k <;> simp [h])
    omega
  have hqb : q < 20 := Nat.lt_of_lt_of_le hq (hb nr i4)
  unfold F_X4_find
  have key := loopI (fun n (a : Nat) i => D_X4_find_5 N T n (nI k) (nI q) (nI a) i) (fun i a => a = rqN T k i ∧ a ≤ q) nr (fun r => ∃ i, i < nr ∧ nv (T 15 i) = k ∧ rqN T k i = q ∧ r = nI i)
    (fun n a h => absurd h.2 (by rw [h.1]; omega))
    (fun n i a hi h => by
      obtain ⟨h1, h2⟩ := h
      have e15 := (inv_req I).1 i hi
      have hst : D_X4_find_5 N T (n + 1) (nI k) (nI q) (nI a) (nI i) = (if nI (nv (T 15 i)) = nI k then (if nI a = nI q then some (nI i) else D_X4_find_5 N T n (nI k) (nI q) (nI (a + 1)) (nI (i + 1))) else D_X4_find_5 N T n (nI k) (nI q) (nI a) (nI (i + 1))) := by
        rw [D_X4_find_5, s5, if_neg (ile_f hi (by omega)), zI_rg (by omega) (by omega), zI_succ, zI_succ, ← e15.1]
      have hs : rqN T k (i + 1) = rqN T k i + (if nv (T 15 i) = k then 1 else 0) := rfl
      by_cases h15 : nv (T 15 i) = k
      · rw [if_pos h15] at hs
        by_cases haq : a = q
        · refine Or.inl ⟨nI i, ?_, i, hi, h15, by rw [← h1]; exact haq, rfl⟩
          show D_X4_find_5 N T (n + 1) (nI k) (nI q) (nI a) (nI i) = _
          rw [hst, if_pos (by rw [h15]), if_pos (by rw [haq])]
        · refine Or.inr ⟨a + 1, ⟨by omega, by omega⟩, ?_⟩
          show D_X4_find_5 N T (n + 1) (nI k) (nI q) (nI a) (nI i) = D_X4_find_5 N T n (nI k) (nI q) (nI (a + 1)) (nI (i + 1))
          rw [hst, if_pos (by rw [h15]), if_neg (ine haq (by omega) (by omega))]
      · rw [if_neg h15] at hs
        refine Or.inr ⟨a, ⟨by omega, h2⟩, ?_⟩
        show D_X4_find_5 N T (n + 1) (nI k) (nI q) (nI a) (nI i) = D_X4_find_5 N T n (nI k) (nI q) (nI a) (nI (i + 1))
        rw [hst, if_neg (ine h15 (by omega) (by omega))]) nr N 0 0 (by omega) (by omega) ⟨rfl, Nat.zero_le q⟩
  obtain ⟨r, k1, i, k2, k3, k4, rfl⟩ := key
  exact ⟨i, k2, k3, k4, k1⟩
end RD
