/-! what only answers: sums over performances -/
/-- takings, in ints -/
def tkS (A : Nat → Int32) (p : Nat) (pr : Int32) (nu : Nat) : Nat → Int32 := sumI (fun k => if A (39 + 4 * k + 0) = nI p then pr * A (39 + 4 * k + 3) + (4 : Int32) * pr / 5 * heldS A k nu else 0)
theorem c_takings {N : Nat} {T : RM} {A : Nat → Int32} {np nf nu nr p : Nat} (hN : 24 < N) (hS : RS4 T A np nf nu nr) (hp : p < np) : F_X6_takingsOf N T (nI p) = some (tkS A p (A (6 + 4 * p + 2)) nu nf) := by
  have c1 := hS.1.1
  have c2 := hS.1.2.1
  have t4 : T 4 p = A (6 + 4 * p + 2) := (hS.2.2.1 p hp).1.2.2.1
  unfold F_X6_takingsOf
  rw [zI_rg (by omega) (by omega), t4]
  generalize A (6 + 4 * p + 2) = pr
  refine loopN (fun n a i => D_X6_takingsOf_17 N T n (nI p) pr a i) (fun i => tkS A p pr nu i) nf _ (fun n => ?_) (fun n i hi => ?_) nf N 0 (by omega) (by omega)
  · show D_X6_takingsOf_17 N T (n + 1) (nI p) pr (tkS A p pr nu nf) (nI nf) = _
    rw [D_X6_takingsOf_17, RS4_d3 hS, if_pos (ile_t (Nat.le_refl nf) (by omega))]
  · show D_X6_takingsOf_17 N T (n + 1) (nI p) pr (tkS A p pr nu i) (nI i) = D_X6_takingsOf_17 N T n (nI p) pr (tkS A p pr nu i + (if A (39 + 4 * i + 0) = nI p then pr * A (39 + 4 * i + 3) + (4 : Int32) * pr / 5 * heldS A i nu else 0)) (nI (i + 1))
    obtain ⟨⟨a1, a2, a3, a4, a5, a6⟩, -⟩ := hS.2.2.2.1 i hi
    rw [D_X6_takingsOf_17, RS4_d3 hS, if_neg (ile_f hi (by omega)), zI_rg (by omega) (by omega), zI_rg (by omega) (by omega), zI_rg (by omega) (by omega), a1, a4, a5, zI_succ, jlet_eq]
    by_cases h : A (39 + 4 * i + 0) = nI p
    · rw [if_pos h, if_pos h, Int32.add_assoc, Int32.mul_comm pr 4]
    · rw [if_neg h, if_neg h, Int32.add_zero]
theorem r_takings {N : Nat} {T M : RM} {np nf nu nr p : Nat} (hN : 24 < N) (hS : RS4 T (M 1) np nf nu nr) (hp : p < np) : F_X9_takings N M (nI p) = some (tkS (M 1) p (M 1 (6 + 4 * p + 2)) nu nf) := by
  have c1 := hS.1.1
  have c2 := hS.1.2.1
  have c3 := hS.1.2.2.1
  have e38 : M 1 (38 : Int32).toNatClampNeg = nI nf := RS4_d4 hS
  have d6 : M 1 159 = nI nu := hS.1.2.2.2.2.2.2.2.2.2.1
  unfold F_X9_takings
  rw [z_d (v2 := 2) p 2 rfl rfl (by omega) (by omega), Option.bind_some]
  generalize M 1 (6 + 4 * p + 2) = pr
  refine loopN (fun n a i => D_X9_takings_12 N M n (nI p) a pr i) (fun i => tkS (M 1) p pr nu i) nf _ (fun n => ?_) (fun n i hi => ?_) nf N 0 (by omega) (by omega)
  · show D_X9_takings_12 N M (n + 1) (nI p) (tkS (M 1) p pr nu nf) pr (nI nf) = _
    rw [D_X9_takings_12, if_pos (by decide), e38, if_pos (ile_t (Nat.le_refl nf) (by omega))]
  · show D_X9_takings_12 N M (n + 1) (nI p) (tkS (M 1) p pr nu i) pr (nI i) = D_X9_takings_12 N M n (nI p) (tkS (M 1) p pr nu i + (if M 1 (39 + 4 * i + 0) = nI p then pr * M 1 (39 + 4 * i + 3) + (4 : Int32) * pr / 5 * heldS (M 1) i nu else 0)) pr (nI (i + 1))
    rw [D_X9_takings_12, if_pos (by decide), e38, if_neg (ile_f hi (by omega)), z_p (v2 := 0) i 0 rfl rfl (by omega) (by omega), Option.bind_some, z_p (v2 := 3) i 3 rfl rfl (by omega) (by omega), Option.bind_some, z_heldAt rfl d6 c3 (by omega) (by omega), Option.bind_some, zI_succ]
    by_cases h : M 1 (39 + 4 * i + 0) = nI p
    · rw [if_pos h, if_pos h]
    · rw [if_neg h, if_neg h]
/-- the season under a new 'thrown' -/
theorem hS_th {S : CS} {M : RM} {np nf nu nr : Nat} (hS : RS4 (S 0) (M 1) np nf nu nr) (v : Int32) : RS4 (S 0) (stF M 0 v 1) np nf nu nr := by rw [stF_1]; exact hS
/-! production -/
theorem r_perfsOf {N : Nat} {T M : RM} {np nf nu nr p m : Nat} (hN : 24 < N) (hS : RS4 T (M 1) np nf nu nr) (hp : p < np) (hm : T 6 p = nI m) (hm2 : m < 2 ^ 30) (hm3 : ∀ d, d < 30 → (m.testBit d = true ↔ ∃ k, k < nf ∧ M 1 (39 + 4 * k + 0) = nI p ∧ M 1 (39 + 4 * k + 2) = nI d)) : F_X9_performancesOf N M (nI p) = some (bcnt (nI m)) := by
  have c2 := hS.1.2.1
  have e38 : M 1 (38 : Int32).toNatClampNeg = nI nf := RS4_d4 hS
  have hDC := dc_of hS
  have hsum : sumN (fun k => if (decide (M 1 (39 + 4 * k + 0) = nI p)) = true then 1 else 0) nf = popN m 32 := by
    unfold popN
    refine sum_fib (pr := fun k => nv (M 1 (39 + 4 * k + 2))) (g := fun _ => 1) nf (fun d => m.testBit d) (fun k hk hP => ⟨?_, rfl⟩) (fun i j hi hj hP hQ he => ?_) (fun d hd => ?_)
    · obtain ⟨p', d', a1, a2, a3, a4⟩ := hDC.2.1 k hk
      show nv (M 1 (39 + 4 * k + 2)) < 32
      rw [a4, nv_nI (by omega)]; omega
    · refine Classical.byContradiction (fun hne => ?_)
      have h1 := of_decide_eq_true hP
      have h2 := of_decide_eq_true hQ
      obtain ⟨p1, e1, a1, a2, a3, a4⟩ := hDC.2.1 i hi
      obtain ⟨p2, e2, b1, b2, b3, b4⟩ := hDC.2.1 j hj
      have h3 : nv (M 1 (39 + 4 * i + 2)) = nv (M 1 (39 + 4 * j + 2)) := he
      rw [a4, b4, nv_nI (by omega), nv_nI (by omega)] at h3
      exact hDC.2.2 i j hi hj hne (by rw [a4, b4, h3]) (h1.trans h2.symm)
    · show m.testBit d = true ↔ _
      rcases Nat.lt_or_ge d 30 with h30 | h30
      · rw [hm3 d h30]
        constructor
        · rintro ⟨k, k1, k2, k3⟩
          exact ⟨k, k1, decide_eq_true k2, by show nv (M 1 (39 + 4 * k + 2)) = d; rw [k3, nv_nI (by omega)]⟩
        · rintro ⟨k, k1, k2, k3⟩
          obtain ⟨p1, e1, a1, a2, a3, a4⟩ := hDC.2.1 k k1
          have k3 : nv (M 1 (39 + 4 * k + 2)) = d := k3
          rw [a4, nv_nI (by omega)] at k3
          exact ⟨k, k1, of_decide_eq_true k2, by rw [a4, k3]⟩
      · rw [Nat.testBit_lt_two_pow (Nat.lt_of_lt_of_le hm2 (Nat.pow_le_pow_right (by decide) h30))]
        constructor
        · intro q; cases q
        · rintro ⟨k, k1, k2, k3⟩
          obtain ⟨p1, e1, a1, a2, a3, a4⟩ := hDC.2.1 k k1
          have k3 : nv (M 1 (39 + 4 * k + 2)) = d := k3
          rw [a4, nv_nI (by omega)] at k3
          omega
  rw [bcnt_pop (by omega), ← hsum]
  unfold F_X9_performancesOf
  refine loopN (fun n a i => D_X9_performancesOf_4 N M n (nI p) a i) (fun i => nI (sumN (fun k => if (decide (M 1 (39 + 4 * k + 0) = nI p)) = true then 1 else 0) i)) nf _ (fun n => ?_) (fun n i hi => ?_) nf N 0 (by omega) (by omega)
  · show D_X9_performancesOf_4 N M (n + 1) (nI p) _ (nI nf) = _
    rw [D_X9_performancesOf_4, if_pos (by decide), e38, if_pos (ile_t (Nat.le_refl nf) (by omega))]
  · show D_X9_performancesOf_4 N M (n + 1) (nI p) (nI (sumN (fun k => if (decide (M 1 (39 + 4 * k + 0) = nI p)) = true then 1 else 0) i)) (nI i) = D_X9_performancesOf_4 N M n (nI p) (nI (sumN (fun k => if (decide (M 1 (39 + 4 * k + 0) = nI p)) = true then 1 else 0) (i + 1))) (nI (i + 1))
    rw [D_X9_performancesOf_4, if_pos (by decide), e38, if_neg (ile_f hi (by omega)), z_p (v2 := 0) i 0 rfl rfl (by omega) (by omega), Option.bind_some, zI_succ, zI_succ, Int32.add_zero, sumN]
    by_cases hb : M 1 (39 + 4 * i + 0) = nI p
    · rw [if_pos hb, decide_eq_true hb, if_pos rfl]
    · rw [if_neg hb, decide_eq_false hb, if_neg (by decide)]; rfl
theorem c_firstDate {N m : Nat} (hN : 30 < N) : (∃ f, f < 30 ∧ m.testBit f = true ∧ (∀ e, e < f → m.testBit e = false) ∧ F_X8_firstDate N (nI m) = some (nI f)) ∨ ((∀ e, e < 30 → m.testBit e = false) ∧ F_X8_firstDate N (nI m) = some (-1)) := by
  unfold F_X8_firstDate
  have hb : ∀ i, i < 30 → F_X8_isInSet N (nI m) (nI i) = some (if m.testBit i = true then 1 else 0) := fun i hi => by
    have h := jBit_nat m (show i < 32 by omega)
    unfold jBit at h
    unfold F_X8_isInSet
    by_cases q : (nI m >>> (nI i &&& 31)) &&& (1 : Int32) = 0
    · rw [if_pos q] at h ⊢; rw [← h]
    · rw [if_neg q] at h ⊢; rw [← h]
  rcases loopE (fun n i => D_X8_firstDate_2 N n (nI m) i) (fun e => m.testBit e = true) 30 (some (-1)) (fun f => some (nI f))
    (fun n => by
      show D_X8_firstDate_2 N (n + 1) (nI m) (nI 30) = some (-1)
      rw [D_X8_firstDate_2, if_pos (by decide)])
    (fun n i hi hp => by
      show D_X8_firstDate_2 N (n + 1) (nI m) (nI i) = D_X8_firstDate_2 N n (nI m) (nI (i + 1))
      rw [D_X8_firstDate_2, if_neg (show ¬ (30 : Int32) ≤ nI i from ile_f (a := 30) hi (by omega)), hb i hi, Option.bind_some, if_neg hp, if_pos rfl, zI_succ])
    (fun n i hi hp => by
      show D_X8_firstDate_2 N (n + 1) (nI m) (nI i) = some (nI i)
      rw [D_X8_firstDate_2, if_neg (show ¬ (30 : Int32) ≤ nI i from ile_f (a := 30) hi (by omega)), hb i hi, Option.bind_some, if_pos hp, if_neg (by decide)]) 30 N 0 (by omega) (by omega) with ⟨a, b⟩ | ⟨j, _, a, b, c, d⟩
  · exact Or.inr ⟨fun e he => by simpa using a e (Nat.zero_le e) he, b⟩
  · exact Or.inl ⟨j, a, b, fun e he => by simpa using c e (Nat.zero_le e) he, d⟩
theorem c_lastL {N m : Nat} : ∀ (i n : Nat), i < n → i ≤ 30 → (∃ f, f < i ∧ m.testBit f = true ∧ (∀ e, f < e → e < i → m.testBit e = false) ∧ D_X8_lastDate_3 N n (nI m) (nI i - 1) = some (nI f)) ∨ ((∀ e, e < i → m.testBit e = false) ∧ D_X8_lastDate_3 N n (nI m) (nI i - 1) = some (-1)) := by
  intro i
  induction i with
  | zero =>
    intro n hn _
    obtain ⟨n, rfl⟩ : ∃ k, n = k + 1 := ⟨n - 1, by omega⟩
    exact Or.inr ⟨fun e he => absurd he (Nat.not_lt_zero e), by rw [D_X8_lastDate_3, if_pos (by decide)]⟩
  | succ i ih =>
    intro n hn hi
    obtain ⟨n, rfl⟩ : ∃ k, n = k + 1 := ⟨n - 1, by omega⟩
    have hb : F_X8_isInSet N (nI m) (nI i) = some (if m.testBit i = true then 1 else 0) := by
      have h := jBit_nat m (show i < 32 by omega)
      unfold jBit at h
      unfold F_X8_isInSet
      by_cases q : (nI m >>> (nI i &&& 31)) &&& (1 : Int32) = 0
      · rw [if_pos q] at h ⊢; rw [← h]
      · rw [if_neg q] at h ⊢; rw [← h]
    have ei : nI (i + 1) - 1 = nI i := zI_sub (a := i + 1) (b := 1) (by omega)
    have ed : nI i + (-1 : Int32) = nI i - 1 := (Int32.sub_eq_add_neg (nI i) 1).symm
    rw [ei, D_X8_lastDate_3, if_neg (Int32.not_lt.mpr (zI_pos (by omega))), hb, Option.bind_some, ed]
    by_cases hbit : m.testBit i = true
    · rw [if_pos hbit, if_neg (by decide)]
      exact Or.inl ⟨i, Nat.lt_succ_self i, hbit, fun e h1 h2 => by omega, rfl⟩
    · rw [if_neg hbit, if_pos rfl]
      have hbf : m.testBit i = false := by simpa using hbit
      rcases ih n (by omega) (by omega) with ⟨f, a, b, c, d⟩ | ⟨a, b⟩
      · refine Or.inl ⟨f, by omega, b, fun e h1 h2 => ?_, d⟩
        by_cases he : e = i
        · rw [he]; exact hbf
        · exact c e h1 (by omega)
      · refine Or.inr ⟨fun e he => ?_, b⟩
        by_cases he' : e = i
        · rw [he']; exact hbf
        · exact a e (by omega)
theorem je_production : jE_production (Rel RSea) := by
  intro S M v1 v2 h
  obtain ⟨np, nf, nu, nr, hS⟩ := rel_rs h
  have hS' := hS
  obtain ⟨⟨c1, c2, c3, c4, d1, d2, d3, d4, d5, d6, d7, d8⟩, htop, hpro, hper, hapt, hsub, hreq, hcrw⟩ := hS'
  rcases zI_idx (n := np) (by omega) v1 with hz | ⟨ho, p, hp, rfl⟩
  · refine ⟨3000, (1, 0, S), 3000, (0, stF M 0 1), ?_, ?_, Or.inr (Or.inl rfl), ?_, fun q => absurd (show (1 : Int32) = 0 from q) (by decide), rel_thr RSea_loc h 1⟩
    · unfold F_X8_production; rw [z_has3, Option.bind_some, d1, hz, if_neg (by decide)]; rfl
    · unfold F_X9_production D_X9_production_28
      rw [z_isProduction, Option.bind_some, d2, if_pos hz, jlet_eq, stF_eq, if_neg (show ¬ (1 : Int32) = 0 by decide)]
    · show stF M 0 1 0 0 = hk_production 1
      rw [stF_eq]; rfl
  have hne : ¬ jIn (nI p) 0 (nI np - 1) = 0 := by rw [ho]; decide
  by_cases hv : jIn v2 0 7 = 0
  · have hnot : ∀ c : Nat, c ≤ 7 → ¬ v2 = nI c := fun c hc e => by
      have := jIn_0.mp hv
      rw [e] at this
      exact this ⟨zI_pos (by omega), ile_t (b := 7) hc (by omega)⟩
    refine ⟨3000, (2, 0, S), 3000, (0, stF M 0 2), ?_, ?_, Or.inr (Or.inr rfl), ?_, fun q => absurd (show (2 : Int32) = 0 from q) (by decide), rel_thr RSea_loc h 2⟩
    · unfold F_X8_production; rw [z_has3, Option.bind_some, d1, ho, if_pos (by decide), if_neg (show ¬ v2 = 0 from hnot 0 (by omega)), if_neg (show ¬ v2 = 1 from hnot 1 (by omega)), if_neg (show ¬ v2 = 2 from hnot 2 (by omega)), if_neg (show ¬ v2 = 3 from hnot 3 (by omega)), if_neg (show ¬ v2 = 4 from hnot 4 (by omega)), if_neg (show ¬ v2 = 5 from hnot 5 (by omega)), if_neg (show ¬ v2 = 6 from hnot 6 (by omega)), if_neg (show ¬ v2 = 7 from hnot 7 (by omega))]
    · unfold F_X9_production D_X9_production_28
      rw [z_isProduction, Option.bind_some, d2, if_neg hne, z_in, Option.bind_some, if_pos hv, jlet_eq, stF_eq, if_neg (show ¬ (2 : Int32) = 0 by decide)]
    · show stF M 0 2 0 0 = hk_production 2
      rw [stF_eq]; rfl
  obtain ⟨c, rfl, -, hc⟩ := zI_btw (a := 0) (b := 7) (by decide) (by decide) (Decidable.not_not.mp (fun q => hv (jIn_0.mpr q)))
  obtain ⟨⟨a1, a2, a3, a4⟩, -, m, m1, m2, m3⟩ := hpro p hp
  have hDC := dc_of hS
  have hcl : F_X8_production 3000 S (nI p) (nI c) = if nI c = 0 then some ((0 : Int32), S 0 2 p, S) else if nI c = 1 then some ((0 : Int32), S 0 3 p, S) else if nI c = 2 then some ((0 : Int32), S 0 4 p, S) else if nI c = 3 then some ((0 : Int32), S 0 5 p, S) else if nI c = 4 then some ((0 : Int32), bcnt (nI m), S) else if nI c = 5 then ((F_X8_firstDate 3000 (nI m)).bind (fun r8 => some ((0 : Int32), r8, S))) else if nI c = 6 then ((F_X8_lastDate 3000 (nI m)).bind (fun r7 => some ((0 : Int32), r7, S))) else if nI c = 7 then ((F_X6_takingsOf 3000 (S 0) (nI p)).bind (fun r6 => some ((0 : Int32), r6, S))) else some ((2 : Int32), (0 : Int32), S) := by
    have e : ∀ f : Nat → Int32, rg 8 f (nI p) = f p := fun f => zI_rg (by omega) (by omega)
    unfold F_X8_production
    rw [z_has3, Option.bind_some, d1, ho, if_pos (by decide), e, e, e, e, e, m1]
  have hrf : F_X9_production 3000 M (nI p) (nI c) = if nI c = 4 then ((F_X9_performancesOf 3000 (stF M 0 0) (nI p)).bind (fun r7 => some (r7, stF M 0 0))) else if nI c = 5 then ((F_X9_firstOf 3000 (stF M 0 0) (nI p)).bind (fun r6 => some (r6, stF M 0 0))) else if nI c = 6 then ((F_X9_lastOf 3000 (stF M 0 0) (nI p)).bind (fun r5 => some (r5, stF M 0 0))) else if nI c = 7 then ((F_X9_takings 3000 (stF M 0 0) (nI p)).bind (fun r4 => some (r4, stF M 0 0))) else ((F_X9_d 3000 (stF M 0 0) (nI p) (nI c)).bind (fun r3 => some (r3, stF M 0 0))) := by
    unfold F_X9_production D_X9_production_28
    rw [z_isProduction, Option.bind_some, d2, if_neg hne, z_in, Option.bind_some, if_neg hv, jlet_eq, stF_eq, if_pos rfl]
  have fin : ∀ v, F_X8_production 3000 S (nI p) (nI c) = some (0, v, S) → F_X9_production 3000 M (nI p) (nI c) = some (v, stF M 0 0) → ∃ (N1 : Nat) (rc : _) (N2 : Nat) (rm : _), F_X8_production N1 S (nI p) (nI c) = some rc ∧ F_X9_production N2 M (nI p) (nI c) = some rm ∧ (rc.1 = 0 ∨ rc.1 = 1 ∨ rc.1 = 2) ∧ rm.2 0 0 = hk_production rc.1 ∧ (rc.1 = 0 → rc.2.1 = rm.1) ∧ Rel RSea rc.2.2 rm.2 := fun v g1 g2 =>
    ⟨3000, _, 3000, _, g1, g2, Or.inl rfl, (show stF M 0 0 0 0 = hk_production 0 by rw [stF_eq]; rfl), fun _ => rfl, rel_thr RSea_loc h 0⟩
  have hS0 := hS_th hS 0
  have hd4 : ∀ x, x < 4 → F_X9_d 3000 (stF M 0 0) (nI p) (nI x) = some (M 1 (6 + 4 * p + x)) := fun x hx => by
    rw [z_d p x rfl rfl (by omega) hx, stF_1]
  rcases (show c = 0 ∨ c = 1 ∨ c = 2 ∨ c = 3 ∨ c = 4 ∨ c = 5 ∨ c = 6 ∨ c = 7 by omega) with e | e | e | e | e | e | e | e
  · subst e
    rw [if_pos (by decide)] at hcl
    rw [if_neg (by decide), if_neg (by decide), if_neg (by decide), if_neg (by decide), hd4 0 (by omega), Option.bind_some] at hrf
    exact fin _ hcl (hrf.trans (by rw [← a1]))
  · subst e
    rw [if_neg (by decide), if_pos (by decide)] at hcl
    rw [if_neg (by decide), if_neg (by decide), if_neg (by decide), if_neg (by decide), hd4 1 (by omega), Option.bind_some] at hrf
    exact fin _ hcl (hrf.trans (by rw [← a2]))
  · subst e
    rw [if_neg (by decide), if_neg (by decide), if_pos (by decide)] at hcl
    rw [if_neg (by decide), if_neg (by decide), if_neg (by decide), if_neg (by decide), hd4 2 (by omega), Option.bind_some] at hrf
    exact fin _ hcl (hrf.trans (by rw [← a3]))
  · subst e
    rw [if_neg (by decide), if_neg (by decide), if_neg (by decide), if_pos (by decide)] at hcl
    rw [if_neg (by decide), if_neg (by decide), if_neg (by decide), if_neg (by decide), hd4 3 (by omega), Option.bind_some] at hrf
    exact fin _ hcl (hrf.trans (by rw [← a4]))
  · subst e
    rw [if_neg (by decide), if_neg (by decide), if_neg (by decide), if_neg (by decide), if_pos (by decide)] at hcl
    rw [if_pos (by decide), r_perfsOf (T := S 0) (by omega) hS0 hp m1 m2 (by rw [stF_1]; exact m3), Option.bind_some] at hrf
    exact fin _ hcl hrf
  · subst e
    rw [if_neg (by decide), if_neg (by decide), if_neg (by decide), if_neg (by decide), if_neg (by decide), if_pos (by decide)] at hcl
    obtain ⟨r, g1, g2⟩ := r_first (N := 3000) (M := stF M 0 0) (D := S 0 6) (np := np) (by omega) c2 (RS4_d4 hS0) (dc_of hS0) p (by omega)
    rw [if_neg (by decide), if_pos (by decide), g1, Option.bind_some] at hrf
    rw [stF_1] at g2
    rcases fst_bits m3 hDC.2.1 g2 with ⟨x1, x2⟩ | ⟨f, x1, x2, x3, x4⟩
    · rcases c_firstDate (N := 3000) (m := m) (by omega) with ⟨f', y1, y2, y3, y4⟩ | ⟨y1, y2⟩
      · rw [x2 f' y1] at y2; cases y2
      · rw [y2, Option.bind_some] at hcl
        exact fin _ hcl (by rw [hrf, x1])
    · rcases c_firstDate (N := 3000) (m := m) (by omega) with ⟨f', y1, y2, y3, y4⟩ | ⟨y1, y2⟩
      · have e : f = f' := by
          rcases Nat.lt_trichotomy f f' with q | q | q
          · rw [y3 f q] at x3; cases x3
          · exact q
          · rw [x4 f' q] at y2; cases y2
        rw [y4, Option.bind_some] at hcl
        exact fin _ hcl (by rw [hrf, x2, e])
      · rw [y1 f x1] at x3; cases x3
  · subst e
    rw [if_neg (by decide), if_neg (by decide), if_neg (by decide), if_neg (by decide), if_neg (by decide), if_neg (by decide), if_pos (by decide)] at hcl
    obtain ⟨r, g1, g2⟩ := r_last (N := 3000) (M := stF M 0 0) (D := S 0 6) (np := np) (by omega) c2 (RS4_d4 hS0) (dc_of hS0) p (by omega)
    rw [if_neg (by decide), if_neg (by decide), if_pos (by decide), g1, Option.bind_some] at hrf
    rw [stF_1] at g2
    have hld : F_X8_lastDate 3000 (nI m) = D_X8_lastDate_3 3000 3000 (nI m) (nI 30 - 1) := rfl
    rcases lst_bits m2 m3 g2 with ⟨x1, x2⟩ | ⟨f, x1, x2, x3, x4⟩
    · rcases c_lastL (N := 3000) (m := m) 30 3000 (by omega) (by omega) with ⟨f', y1, y2, y3, y4⟩ | ⟨y1, y2⟩
      · rw [x2 f'] at y2; cases y2
      · rw [hld, y2, Option.bind_some] at hcl
        exact fin _ hcl (by rw [hrf, x1])
    · rcases c_lastL (N := 3000) (m := m) 30 3000 (by omega) (by omega) with ⟨f', y1, y2, y3, y4⟩ | ⟨y1, y2⟩
      · have e : f = f' := by
          rcases Nat.lt_trichotomy f f' with q | q | q
          · rw [x4 f' q] at y2; cases y2
          · exact q
          · rw [y3 f q x1] at x3; cases x3
        rw [hld, y4, Option.bind_some] at hcl
        exact fin _ hcl (by rw [hrf, x2, e])
      · rw [y1 f x1] at x3; cases x3
  · subst e
    rw [if_neg (by decide), if_neg (by decide), if_neg (by decide), if_neg (by decide), if_neg (by decide), if_neg (by decide), if_neg (by decide), if_pos (by decide), c_takings (by omega) hS hp, Option.bind_some] at hcl
    rw [if_neg (by decide), if_neg (by decide), if_neg (by decide), if_pos (by decide), r_takings (by omega) hS0 hp, Option.bind_some, stF_1] at hrf
    exact fin _ hcl hrf
