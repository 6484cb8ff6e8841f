/-! seats, seatsAgain, account, partner, fullness -/
theorem sum_add (f g : Nat → Nat) (n : Nat) : sumN (fun k => f k + g k) n = sumN f n + sumN g n := by
  induction n with
  | zero => rfl
  | succ n ih =>
    show sumN (fun k => f k + g k) n + (f n + g n) = sumN f n + f n + (sumN g n + g n)
    rw [ih]
    omega
theorem sum_swap (f : Nat → Nat → Nat) (m n : Nat) : sumN (fun s => sumN (f s) n) m = sumN (fun k => sumN (fun s => f s k) m) n := by
  induction m with
  | zero => exact (sumN_zero n).symm
  | succ m ih =>
    show sumN (fun s => sumN (f s) n) m + sumN (f m) n = sumN (fun k => sumN (fun s => f s k) m + f m k) n
    rw [ih, ← sum_add]
/-- sold, held, free of a performance -/
def svN (A : Nat → Int32) (nu c k : Nat) : Nat := if c = 0 then nv (A (39 + 4 * k + 3)) else if c = 1 then nv (heldS A k nu) else nv (A (nv (A (39 + 4 * k + 1)))) - (nv (A (39 + 4 * k + 3)) + nv (heldS A k nu))
theorem z_sv {N : Nat} (hN : 10 < N) {T M : RM} {np nf nu nr k c : Nat} (hS : RS4 T (M 1) np nf nu nr) (hk : k < nf) (hc : c ≤ 2) : F_X6_seatsAt N T (nI k) (nI c) = some (nI (svN (M 1) nu c k)) ∧ F_X9_seatsOf N M (nI k) (nI c) = some (nI (svN (M 1) nu c k)) ∧ svN (M 1) nu c k ≤ 99 := by
  have c2 := hS.1.2.1
  obtain ⟨s, w, h, z, f1, f2, f3, f4, f5, f6, f7, f8, f9, f10, f11, f12, f13, f14, f15⟩ := z_free1 hN hS hk
  have e : svN (M 1) nu c k = if c = 0 then w else if c = 1 then h else z - (w + h) := by
    unfold svN
    rw [f8, f9, f10, nv_nI (by omega), nv_nI (by omega), nv_nI (by omega), f11, nv_nI (by omega)]
  rw [e]
  rcases (show c = 0 ∨ c = 1 ∨ c = 2 by omega) with q | q | q
  · subst q
    refine ⟨?_, ?_, by rw [if_pos rfl]; omega⟩
    · unfold F_X6_seatsAt
      rw [if_pos (by decide), zI_rg (by omega) (by omega), f5, if_pos rfl]
    · unfold F_X9_seatsOf
      rw [if_pos (by decide), z_p (v2 := 3) k 3 rfl rfl (by omega) (by omega), Option.bind_some, f8, if_pos rfl]
  · subst q
    refine ⟨?_, ?_, by rw [if_neg (by decide), if_pos rfl]; omega⟩
    · unfold F_X6_seatsAt
      rw [if_neg (by decide), if_pos (by decide), zI_rg (by omega) (by omega), f6, if_neg (by decide), if_pos rfl]
    · unfold F_X9_seatsOf
      rw [if_neg (by decide), if_pos (by decide), f12, Option.bind_some, if_neg (by decide), if_pos rfl]
  · subst q
    refine ⟨?_, ?_, by rw [if_neg (by decide), if_neg (by decide)]; omega⟩
    · exact f15.trans (by rw [if_neg (by decide), if_neg (by decide)])
    · unfold F_X9_seatsOf
      rw [if_neg (by decide), if_neg (by decide), f13, Option.bind_some, if_neg (by decide), if_neg (by decide)]
def sdN (A : Nat → Int32) (nu c d : Nat) : Nat → Nat := sumN (fun k => if (decide (A (39 + 4 * k + 2) = nI d)) = true then svN A nu c k else 0)
theorem r_seats {M : RM} {T : RM} {np nf nu nr c d : Nat} (hS : RS4 T (M 1) np nf nu nr) (hc : c ≤ 2) : D_X9_seats_39 3000 3000 M (nI d) (nI c) 0 0 = some (nI (sdN (M 1) nu c d nf), M) := by
  have c2 := hS.1.2.1
  have e38 : M 1 (38 : Int32).toNatClampNeg = nI nf := RS4_d4 hS
  refine loopN (fun n a i => D_X9_seats_39 3000 n M (nI d) (nI c) a i) (fun i => nI (sdN (M 1) nu c d i)) nf _ (fun n => ?_) (fun n i hi => ?_) nf 3000 0 (by omega) (by omega)
  · show D_X9_seats_39 3000 (n + 1) M (nI d) (nI c) (nI (sdN (M 1) nu c d nf)) (nI nf) = _
    rw [D_X9_seats_39, if_pos (by decide), e38, if_pos (ile_t (Nat.le_refl nf) (by omega))]
  · show D_X9_seats_39 3000 (n + 1) M (nI d) (nI c) (nI (sdN (M 1) nu c d i)) (nI i) = D_X9_seats_39 3000 n M (nI d) (nI c) (nI (sdN (M 1) nu c d i + (if (decide (M 1 (39 + 4 * i + 2) = nI d)) = true then svN (M 1) nu c i else 0))) (nI (i + 1))
    rw [D_X9_seats_39, if_pos (by decide), e38, if_neg (ile_f hi (by omega)), z_p (v2 := 2) i 2 rfl rfl (by omega) (by omega), Option.bind_some, (z_sv (N := 3000) (by omega) hS hi hc).2.1, Option.bind_some, zI_succ, zI_add, Int32.add_zero]
    by_cases hb : M 1 (39 + 4 * i + 2) = nI d
    · rw [if_pos hb, decide_eq_true hb, if_pos rfl]
    · rw [if_neg hb, decide_eq_false hb, if_neg (by decide)]; rfl
theorem seats_bad {v1 v2 : Int32} {M : RM} (h : jIn v1 0 29 = 0 ∨ jIn v2 0 2 = 0) : F_X9_seats 3000 M v1 v2 = some (0, stF M 0 1) := by
  unfold F_X9_seats D_X9_seats_22
  rw [z_isDate, Option.bind_some, z_in, Option.bind_some]
  by_cases h1 : jIn v1 0 29 = 0
  · rw [if_pos h1, jlet_eq, stF_eq, if_neg (show ¬ (1 : Int32) = 0 by decide)]
  · rw [if_neg h1, if_pos (h.resolve_left h1), jlet_eq, stF_eq, if_neg (show ¬ (1 : Int32) = 0 by decide)]
theorem seats_good {v1 v2 : Int32} {M : RM} (h1 : ¬ jIn v1 0 29 = 0) (h2 : ¬ jIn v2 0 2 = 0) : F_X9_seats 3000 M v1 v2 = D_X9_seats_39 3000 3000 (stF M 0 0) v1 v2 0 0 := by
  unfold F_X9_seats D_X9_seats_22
  rw [z_isDate, Option.bind_some, z_in, Option.bind_some, if_neg h1, if_neg h2, jlet_eq, stF_eq, if_pos rfl]
theorem je_seats : jE_seats (Rel RSea) := by
  intro S M v1 v2 h
  obtain ⟨np, nf, nu, nr, hS⟩ := rel_rs h
  have c2 := hS.1.2.1
  by_cases hbad : jIn v1 0 29 = 0 ∨ jIn v2 0 2 = 0
  · refine ⟨3000, (2, 0, S), 3000, (0, stF M 0 1), ?_, seats_bad hbad, Or.inr rfl, ?_, fun q => absurd (show (2 : Int32) = 0 from q) (by decide), rel_thr RSea_loc h 1⟩
    · unfold F_X8_seats
      by_cases h1 : jIn v1 0 29 = 0
      · rw [if_pos h1, if_neg (show ¬ ckArgument 0 = 0 by decide)]; rfl
      · rw [if_neg h1, if_pos (hbad.resolve_left h1), if_neg (show ¬ ckArgument 0 = 0 by decide)]; rfl
    · show stF M 0 1 0 0 = hk_seats 2
      rw [stF_eq]; rfl
  · have h1 : ¬ jIn v1 0 29 = 0 := fun q => hbad (Or.inl q)
    have h2 : ¬ jIn v2 0 2 = 0 := fun q => hbad (Or.inr q)
    have hrf := seats_good (M := M) h1 h2
    have hcl : F_X8_seats 3000 S v1 v2 = D_X8_seats_27 3000 3000 S v1 v2 0 0 := by
      unfold F_X8_seats
      rw [if_neg h1, if_neg h2, if_pos (show ckArgument 1 = 0 by decide)]
    obtain ⟨d, rfl, -, hd⟩ := zI_btw (a := 0) (b := 29) (by decide) (by decide) (Decidable.not_not.mp (fun q => h1 (jIn_0.mpr q)))
    obtain ⟨c, rfl, -, hc⟩ := zI_btw (a := 0) (b := 2) (by decide) (by decide) (Decidable.not_not.mp (fun q => h2 (jIn_0.mpr q)))
    have hS0 := hS_th hS 0
    have hl : D_X8_seats_27 3000 3000 S (nI d) (nI c) 0 0 = some (0, nI (sdN (M 1) nu c d nf), S) := by
      refine loopN (fun n a i => D_X8_seats_27 3000 n S (nI d) (nI c) a i) (fun i => nI (sdN (M 1) nu c d i)) nf _ (fun n => ?_) (fun n i hi => ?_) nf 3000 0 (by omega) (by omega)
      · show D_X8_seats_27 3000 (n + 1) S (nI d) (nI c) (nI (sdN (M 1) nu c d nf)) (nI nf) = _
        rw [D_X8_seats_27, RS4_d3 hS, if_pos (ile_t (Nat.le_refl nf) (by omega))]
      · show D_X8_seats_27 3000 (n + 1) S (nI d) (nI c) (nI (sdN (M 1) nu c d i)) (nI i) = D_X8_seats_27 3000 n S (nI d) (nI c) (nI (sdN (M 1) nu c d i + (if (decide (M 1 (39 + 4 * i + 2) = nI d)) = true then svN (M 1) nu c i else 0))) (nI (i + 1))
        have t9 := (hS.2.2.2.1 i hi).1.2.2.1
        rw [D_X8_seats_27, RS4_d3 hS, if_neg (ile_f hi (by omega)), zI_rg (by omega) (by omega), t9, (z_sv (N := 3000) (by omega) hS hi hc).1, Option.bind_some, zI_succ, zI_add]
        by_cases hb : M 1 (39 + 4 * i + 2) = nI d
        · rw [if_pos hb, decide_eq_true hb, if_pos rfl]
        · rw [if_neg hb, decide_eq_false hb, if_neg (by decide)]; rfl
    have hr := r_seats (d := d) hS0 hc
    rw [stF_1] at hr
    refine ⟨3000, _, 3000, _, hcl.trans hl, hrf.trans hr, Or.inl rfl, ?_, fun _ => rfl, rel_thr RSea_loc h 0⟩
    show stF M 0 0 0 0 = hk_seats 0
    rw [stF_eq]; rfl
/-- the performance on a stage on a date, its seats -/
def soN (A : Nat → Int32) (nu c d nf s : Nat) : Nat := sumN (fun k => if (decide (A (39 + 4 * k + 2) = nI d)) = true then (if (decide (A (39 + 4 * k + 1) = nI s)) = true then svN A nu c k else 0) else 0) nf
theorem c_onStage {T M : RM} {np nf nu nr c d s : Nat} (hS : RS4 T (M 1) np nf nu nr) (hc : c ≤ 2) (hs : s < 3) : F_X6_seatsOnStage 3000 T (nI s) (nI d) (nI c) = some (nI (soN (M 1) nu c d nf s)) := by
  have c2 := hS.1.2.1
  have c3 := hS.1.2.2.1
  have d5 : T 0 4 = nI nu := hS.1.2.2.2.2.2.2.2.2.1
  unfold F_X6_seatsOnStage
  rcases c_findAt (N := 3000) (by omega) hS (nI s) (nI d) with ⟨x1, x2⟩ | ⟨k, x1, x2, x3, x4⟩
  · have e0 : soN (M 1) nu c d nf s = 0 := by
      unfold soN
      refine (sumN_congr (g := fun _ => 0) (fun k hk => ?_)).trans (sumN_zero _)
      by_cases h2 : M 1 (39 + 4 * k + 2) = nI d
      · by_cases h1 : M 1 (39 + 4 * k + 1) = nI s
        · exact absurd ⟨h1, h2⟩ (x1 k hk)
        · rw [decide_eq_false h1, if_neg (show ¬ false = true by decide), ite_self]
      · rw [decide_eq_false h2, if_neg (by decide)]
    rw [x2, Option.bind_some, if_pos rfl, e0]
    rfl
  · have e0 : soN (M 1) nu c d nf s = svN (M 1) nu c k := by
      unfold soN
      have h := sumN_one (F := fun k => if (decide (M 1 (39 + 4 * k + 2) = nI d)) = true then (if (decide (M 1 (39 + 4 * k + 1) = nI s)) = true then svN (M 1) nu c k else 0) else 0) (G := fun _ => 0) (q := k) (v := svN (M 1) nu c k) (n := nf) x1 (fun i hi hne => ?_) ?_
      · rw [sumN_zero, Nat.zero_add] at h
        exact h
      · show (if (decide (M 1 (39 + 4 * i + 2) = nI d)) = true then (if (decide (M 1 (39 + 4 * i + 1) = nI s)) = true then svN (M 1) nu c i else 0) else 0) = 0
        by_cases h2 : M 1 (39 + 4 * i + 2) = nI d
        · have h1 : ¬ M 1 (39 + 4 * i + 1) = nI s := fun q => (hS.2.2.2.2.1 i k hi x1 hne (h2.trans x2.2.symm)).1 (q.trans x2.1.symm)
          rw [decide_eq_false h1, if_neg (show ¬ false = true by decide), ite_self]
        · rw [decide_eq_false h2, if_neg (by decide)]
      · show (if (decide (M 1 (39 + 4 * k + 2) = nI d)) = true then (if (decide (M 1 (39 + 4 * k + 1) = nI s)) = true then svN (M 1) nu c k else 0) else 0) = 0 + svN (M 1) nu c k
        rw [decide_eq_true x2.2, if_pos rfl, decide_eq_true x2.1, if_pos rfl, Nat.zero_add]
    rw [x4, Option.bind_some, if_neg (show ¬ nI k = -1 from zI_ne_neg (by omega)), e0]
    obtain ⟨s', w, h, z, f1, f2, f3, f4, f5, f6, f7, f8, f9, f10, f11, f12, f13, f14, f15⟩ := z_free1 (N := 3000) (by omega) hS x1
    have hss : s' = s := (zI_eq (by omega) (by omega)).mp (f9.symm.trans x2.1)
    subst hss
    have e : svN (M 1) nu c k = if c = 0 then w else if c = 1 then h else z - (w + h) := by
      unfold svN
      rw [f8, f9, f10, nv_nI (by omega), nv_nI (by omega), nv_nI (by omega), f11, nv_nI (by omega)]
    rw [e, zI_rg (by omega) (by omega), f5]
    by_cases hc0 : c = 0
    · subst hc0
      rw [if_pos (by decide), if_pos rfl]
    · rw [if_neg (show ¬ nI c = 0 from ine (b := 0) hc0 (by omega) (by omega)), if_neg hc0]
      obtain ⟨b, b1, b2, b3⟩ := hok_of hS k x1
      have hlp := loopN (fun n a i => D_X6_seatsOnStage_46 3000 T n (nI s') (nI c) (nI k) (nI w) a i) (fun i => heldS (M 1) k i) nu (some (if nI c = 1 then nI h else (nI z - nI w) - nI h)) (fun n => by
        show D_X6_seatsOnStage_46 3000 T (n + 1) (nI s') (nI c) (nI k) (nI w) (heldS (M 1) k nu) (nI nu) = _
        rw [D_X6_seatsOnStage_46, d5, if_pos (ile_t (Nat.le_refl nu) (by omega)), zI_rg (by omega) (by omega), f7, f10]
        by_cases q : nI c = 1
        · rw [if_pos q, if_pos q]
        · rw [if_neg q, if_neg q]) (fun n i hi => by
        show D_X6_seatsOnStage_46 3000 T (n + 1) (nI s') (nI c) (nI k) (nI w) (heldS (M 1) k i) (nI i) = D_X6_seatsOnStage_46 3000 T n (nI s') (nI c) (nI k) (nI w) (heldS (M 1) k i + (if bitI (M 1 (135 + k)) i then M 1 (160 + 2 * i) else 0)) (nI (i + 1))
        have t13 : T 13 i = M 1 (160 + 2 * i) := (hS.2.2.2.2.2.1 i hi).1
        rw [D_X6_seatsOnStage_46, d5, if_neg (ile_f hi (by omega)), c_isHeld (by omega) (by omega) b1, Option.bind_some, zI_rg (by omega) (by omega), t13, zI_succ, b2]
        by_cases hb : b.testBit i = true
        · rw [if_pos hb, if_neg (by decide), if_pos ((bitI_nat b (by omega)).mpr hb)]
        · rw [if_neg hb, if_pos rfl, if_neg (fun q => hb ((bitI_nat b (by omega)).mp q)), Int32.add_zero]) nu 3000 0 (by omega) (by omega)
      refine hlp.trans ?_
      by_cases hc1 : c = 1
      · rw [if_pos (show nI c = 1 by rw [hc1]; rfl), if_pos hc1]
      · rw [if_neg (show ¬ nI c = 1 from ine (b := 1) hc1 (by omega) (by omega)), if_neg hc1, zI_sub (by omega), zI_sub (by omega), Nat.sub_sub]
theorem je_seatsAgain : jE_seatsAgain (Rel RSea) := by
  intro S M v1 v2 h
  obtain ⟨np, nf, nu, nr, hS⟩ := rel_rs h
  have c2 := hS.1.2.1
  have hra : F_X9_seatsAgain 3000 M v1 v2 = (F_X9_seats 3000 M v1 v2).bind (fun r1 => some (r1.1, r1.2)) := rfl
  by_cases hbad : jIn v1 0 29 = 0 ∨ jIn v2 0 2 = 0
  · refine ⟨3000, (2, 0, S), 3000, (0, stF M 0 1), ?_, by rw [hra, seats_bad hbad]; rfl, Or.inr rfl, ?_, fun q => absurd (show (2 : Int32) = 0 from q) (by decide), rel_thr RSea_loc h 1⟩
    · unfold F_X8_seatsAgain
      by_cases h1 : jIn v1 0 29 = 0
      · rw [if_pos h1, if_neg (show ¬ ckArgument 0 = 0 by decide)]; rfl
      · rw [if_neg h1, if_pos (hbad.resolve_left h1), if_neg (show ¬ ckArgument 0 = 0 by decide)]; rfl
    · show stF M 0 1 0 0 = hk_seatsAgain 2
      rw [stF_eq]; rfl
  · have h1 : ¬ jIn v1 0 29 = 0 := fun q => hbad (Or.inl q)
    have h2 : ¬ jIn v2 0 2 = 0 := fun q => hbad (Or.inr q)
    have hrf := seats_good (M := M) h1 h2
    have hcl : F_X8_seatsAgain 3000 S v1 v2 = D_X8_seatsAgain_27 3000 3000 S v1 v2 0 0 := by
      unfold F_X8_seatsAgain
      rw [if_neg h1, if_neg h2, if_pos (show ckArgument 1 = 0 by decide)]
    obtain ⟨d, rfl, -, hd⟩ := zI_btw (a := 0) (b := 29) (by decide) (by decide) (Decidable.not_not.mp (fun q => h1 (jIn_0.mpr q)))
    obtain ⟨c, rfl, -, hc⟩ := zI_btw (a := 0) (b := 2) (by decide) (by decide) (Decidable.not_not.mp (fun q => h2 (jIn_0.mpr q)))
    have hS0 := hS_th hS 0
    have hl : D_X8_seatsAgain_27 3000 3000 S (nI d) (nI c) 0 0 = some (0, nI (sumN (soN (M 1) nu c d nf) 3), S) := by
      refine loopN (fun n a i => D_X8_seatsAgain_27 3000 n S (nI d) (nI c) a i) (fun i => nI (sumN (soN (M 1) nu c d nf) i)) 3 _ (fun n => ?_) (fun n i hi => ?_) 3 3000 0 (by omega) (by omega)
      · show D_X8_seatsAgain_27 3000 (n + 1) S (nI d) (nI c) (nI (sumN (soN (M 1) nu c d nf) 3)) (nI 3) = _
        rw [D_X8_seatsAgain_27, if_pos (by decide)]
      · show D_X8_seatsAgain_27 3000 (n + 1) S (nI d) (nI c) (nI (sumN (soN (M 1) nu c d nf) i)) (nI i) = D_X8_seatsAgain_27 3000 n S (nI d) (nI c) (nI (sumN (soN (M 1) nu c d nf) i + soN (M 1) nu c d nf i)) (nI (i + 1))
        rw [D_X8_seatsAgain_27, if_neg (show ¬ (3 : Int32) ≤ nI i from ile_f (a := 3) hi (by omega)), c_onStage hS hc hi, Option.bind_some, zI_succ, zI_add]
    have hsum : sumN (soN (M 1) nu c d nf) 3 = sdN (M 1) nu c d nf := by
      unfold sdN
      refine (sum_swap (fun s k => if (decide (M 1 (39 + 4 * k + 2) = nI d)) = true then (if (decide (M 1 (39 + 4 * k + 1) = nI s)) = true then svN (M 1) nu c k else 0) else 0) 3 nf).trans (sumN_congr (fun k hk => ?_))
      obtain ⟨-, -, -, -, s', w, hh, z, g1, g2, -⟩ := hS.2.2.2.1 k hk
      by_cases hb : (decide (M 1 (39 + 4 * k + 2) = nI d)) = true
      · rw [if_pos hb]
        have h := sumN_one (F := fun s => if (decide (M 1 (39 + 4 * k + 2) = nI d)) = true then (if (decide (M 1 (39 + 4 * k + 1) = nI s)) = true then svN (M 1) nu c k else 0) else 0) (G := fun _ => 0) (q := s') (v := svN (M 1) nu c k) (n := 3) g1 (fun i hi hne => ?_) ?_
        · rw [sumN_zero, Nat.zero_add] at h
          exact h
        · show (if (decide (M 1 (39 + 4 * k + 2) = nI d)) = true then (if (decide (M 1 (39 + 4 * k + 1) = nI i)) = true then svN (M 1) nu c k else 0) else 0) = 0
          rw [if_pos hb, if_neg (fun q => ?_)]
          have q := of_decide_eq_true q
          rw [g2] at q
          exact hne ((zI_eq (by omega) (by omega)).mp q).symm
        · show (if (decide (M 1 (39 + 4 * k + 2) = nI d)) = true then (if (decide (M 1 (39 + 4 * k + 1) = nI s')) = true then svN (M 1) nu c k else 0) else 0) = 0 + svN (M 1) nu c k
          rw [if_pos hb, if_pos (decide_eq_true g2), Nat.zero_add]
      · rw [if_neg hb]
        refine (sumN_congr (g := fun _ => 0) (fun s _ => ?_)).trans (sumN_zero _)
        rw [if_neg hb]
    have hr := r_seats (d := d) hS0 hc
    rw [stF_1] at hr
    rw [hsum] at hl
    refine ⟨3000, _, 3000, (nI (sdN (M 1) nu c d nf), stF M 0 0), hcl.trans hl, ?_, Or.inl rfl, ?_, fun _ => rfl, rel_thr RSea_loc h 0⟩
    · rw [hra, hrf, hr]; rfl
    · show stF M 0 0 0 0 = hk_seatsAgain 0
      rw [stF_eq]; rfl
/-! account -/
theorem je_account : jE_account (Rel RSea) := by
  intro S M v1 h
  obtain ⟨np, nf, nu, nr, hS⟩ := rel_rs h
  have hS' := hS
  obtain ⟨⟨c1, c2, c3, c4, d1, d2, d3, d4, d5, d6, d7, d8⟩, htop, hpro, hper, hapt, hsub, hreq, hcrw⟩ := hS'
  by_cases hv : jIn v1 0 14 = 0
  · have hnot : ∀ c : Nat, c ≤ 14 → ¬ v1 = nI c := fun c hc e => by
      have := jIn_0.mp hv
      rw [e] at this
      exact this ⟨zI_pos (by omega), ile_t (b := 14) hc (by omega)⟩
    refine ⟨3000, (2, 0, S), 3000, (0, stF M 0 1), ?_, ?_, Or.inr rfl, ?_, fun q => absurd (show (2 : Int32) = 0 from q) (by decide), rel_thr RSea_loc h 1⟩
    · unfold F_X8_account
      rw [if_neg (show ¬ v1 = 0 from hnot 0 (by omega)), if_neg (show ¬ v1 = 1 from hnot 1 (by omega)), if_neg (show ¬ v1 = 2 from hnot 2 (by omega)), if_neg (show ¬ v1 = 3 from hnot 3 (by omega)), if_neg (show ¬ v1 = 4 from hnot 4 (by omega)), if_neg (show ¬ v1 = 5 from hnot 5 (by omega)), if_neg (show ¬ v1 = 6 from hnot 6 (by omega)), if_neg (show ¬ v1 = 7 from hnot 7 (by omega)), if_neg (show ¬ v1 = 8 from hnot 8 (by omega)), if_neg (show ¬ v1 = 9 from hnot 9 (by omega)), if_neg (show ¬ v1 = 10 from hnot 10 (by omega)), if_neg (show ¬ v1 = 11 from hnot 11 (by omega)), if_neg (show ¬ v1 = 12 from hnot 12 (by omega)), if_neg (show ¬ v1 = 13 from hnot 13 (by omega)), if_neg (show ¬ v1 = 14 from hnot 14 (by omega))]
    · unfold F_X9_account D_X9_account_16
      rw [z_in, Option.bind_some, if_pos hv, jlet_eq, stF_eq, if_neg (show ¬ (1 : Int32) = 0 by decide)]
    · show stF M 0 1 0 0 = hk_account 2
      rw [stF_eq]; rfl
  obtain ⟨c, rfl, -, hc⟩ := zI_btw (a := 0) (b := 14) (by decide) (by decide) (Decidable.not_not.mp (fun q => hv (jIn_0.mpr q)))
  have fin : ∀ v, F_X8_account 3000 S (nI c) = some (0, v, S) → D_X9_account_16 3000 M (nI c) 0 = some (v, stF M 0 0) → ∃ (N1 : Nat) (rc : _) (N2 : Nat) (rm : _), F_X8_account N1 S (nI c) = some rc ∧ F_X9_account N2 M (nI c) = some rm ∧ (rc.1 = 0 ∨ rc.1 = 2) ∧ rm.2 0 0 = hk_account rc.1 ∧ (rc.1 = 0 → rc.2.1 = rm.1) ∧ Rel RSea rc.2.2 rm.2 := fun v g1 g2 =>
    ⟨3000, _, 3000, (v, stF M 0 0), g1, by unfold F_X9_account; rw [z_in, Option.bind_some, if_neg hv]; exact g2, Or.inl rfl, (show stF M 0 0 0 0 = hk_account 0 by rw [stF_eq]; rfl), fun _ => rfl, rel_thr RSea_loc h 0⟩
  have hS0 := hS_th hS 0
  have m1 : ∀ x, stF M 0 0 1 x = M 1 x := fun x => by rw [stF_1]
  have e38 : stF M 0 0 1 (38 : Int32).toNatClampNeg = nI nf := RS4_d4 hS0
  have e5 : stF M 0 0 1 (5 : Int32).toNatClampNeg = nI np := (m1 5).trans d2
  -- all seats of a kind
  have hall : ∀ x, x ≤ 2 → F_X6_seatsOfAll 3000 (S 0) (nI x) = some (nI (sumN (svN (M 1) nu x) nf)) ∧ ∀ v : Int32, v - 4 = nI x → D_X9_account_139 3000 3000 (stF M 0 0) v 0 0 = some (nI (sumN (svN (M 1) nu x) nf), stF M 0 0) := fun x hx => by
    refine ⟨?_, fun v hv4 => ?_⟩
    · unfold F_X6_seatsOfAll
      refine loopN (fun n a i => D_X6_seatsOfAll_4 3000 (S 0) n (nI x) a i) (fun i => nI (sumN (svN (M 1) nu x) i)) nf _ (fun n => ?_) (fun n i hi => ?_) nf 3000 0 (by omega) (by omega)
      · show D_X6_seatsOfAll_4 3000 (S 0) (n + 1) (nI x) (nI (sumN (svN (M 1) nu x) nf)) (nI nf) = _
        rw [D_X6_seatsOfAll_4, d3, if_pos (ile_t (Nat.le_refl nf) (by omega))]
      · show D_X6_seatsOfAll_4 3000 (S 0) (n + 1) (nI x) (nI (sumN (svN (M 1) nu x) i)) (nI i) = D_X6_seatsOfAll_4 3000 (S 0) n (nI x) (nI (sumN (svN (M 1) nu x) i + svN (M 1) nu x i)) (nI (i + 1))
        rw [D_X6_seatsOfAll_4, d3, if_neg (ile_f hi (by omega)), (z_sv (N := 3000) (by omega) hS hi hx).1, Option.bind_some, zI_succ, zI_add]
    · refine loopN (fun n a i => D_X9_account_139 3000 n (stF M 0 0) v a i) (fun i => nI (sumN (svN (M 1) nu x) i)) nf _ (fun n => ?_) (fun n i hi => ?_) nf 3000 0 (by omega) (by omega)
      · show D_X9_account_139 3000 (n + 1) (stF M 0 0) v (nI (sumN (svN (M 1) nu x) nf)) (nI nf) = _
        rw [D_X9_account_139, if_pos (by decide), e38, if_pos (ile_t (Nat.le_refl nf) (by omega))]
      · show D_X9_account_139 3000 (n + 1) (stF M 0 0) v (nI (sumN (svN (M 1) nu x) i)) (nI i) = D_X9_account_139 3000 n (stF M 0 0) v (nI (sumN (svN (M 1) nu x) i + svN (M 1) nu x i)) (nI (i + 1))
        rw [D_X9_account_139, if_pos (by decide), e38, if_neg (ile_f hi (by omega)), show v - (4 : Int32) = nI x from hv4, (z_sv (N := 3000) (by omega) hS0 hi hx).2.1, Option.bind_some, zI_succ, zI_add, stF_1]
  -- all takings
  have htk : F_X6_takingsOfAll 3000 (S 0) = some (sumI (fun p => tkS (M 1) p (M 1 (6 + 4 * p + 2)) nu nf) np) ∧ D_X9_account_185 3000 3000 (stF M 0 0) 0 0 = some (sumI (fun p => tkS (M 1) p (M 1 (6 + 4 * p + 2)) nu nf) np, stF M 0 0) := by
    refine ⟨?_, ?_⟩
    · unfold F_X6_takingsOfAll
      refine loopN (fun n a i => D_X6_takingsOfAll_4 3000 (S 0) n a i) (fun i => sumI (fun p => tkS (M 1) p (M 1 (6 + 4 * p + 2)) nu nf) i) np _ (fun n => ?_) (fun n i hi => ?_) np 3000 0 (by omega) (by omega)
      · show D_X6_takingsOfAll_4 3000 (S 0) (n + 1) _ (nI np) = _
        rw [D_X6_takingsOfAll_4, d1, if_pos (ile_t (Nat.le_refl np) (by omega))]
      · show D_X6_takingsOfAll_4 3000 (S 0) (n + 1) (sumI (fun p => tkS (M 1) p (M 1 (6 + 4 * p + 2)) nu nf) i) (nI i) = D_X6_takingsOfAll_4 3000 (S 0) n (sumI (fun p => tkS (M 1) p (M 1 (6 + 4 * p + 2)) nu nf) i + tkS (M 1) i (M 1 (6 + 4 * i + 2)) nu nf) (nI (i + 1))
        rw [D_X6_takingsOfAll_4, d1, if_neg (ile_f hi (by omega)), c_takings (by omega) hS hi, Option.bind_some, zI_succ]
    · refine loopN (fun n a i => D_X9_account_185 3000 n (stF M 0 0) a i) (fun i => sumI (fun p => tkS (M 1) p (M 1 (6 + 4 * p + 2)) nu nf) i) np _ (fun n => ?_) (fun n i hi => ?_) np 3000 0 (by omega) (by omega)
      · show D_X9_account_185 3000 (n + 1) (stF M 0 0) (sumI (fun p => tkS (M 1) p (M 1 (6 + 4 * p + 2)) nu nf) np) (nI np) = _
        rw [D_X9_account_185, if_pos (by decide), e5, if_pos (ile_t (Nat.le_refl np) (by omega))]
      · show D_X9_account_185 3000 (n + 1) (stF M 0 0) (sumI (fun p => tkS (M 1) p (M 1 (6 + 4 * p + 2)) nu nf) i) (nI i) = D_X9_account_185 3000 n (stF M 0 0) (sumI (fun p => tkS (M 1) p (M 1 (6 + 4 * p + 2)) nu nf) i + tkS (M 1) i (M 1 (6 + 4 * i + 2)) nu nf) (nI (i + 1))
        rw [D_X9_account_185, if_pos (by decide), e5, if_neg (ile_f hi (by omega)), r_takings (by omega) hS0 hi, Option.bind_some, zI_succ, stF_1]
  have hst : ∀ s, s < 3 → rg 3 (S 0 1) (nI s) = M 1 s := fun s hs => by rw [zI_rg hs (by omega)]; exact (htop.2.2.2.2 s hs).1
  obtain ⟨-, ⟨n, hn, hn1, hn2, -⟩, -, -, -, len, l1, l2, l3, -⟩ := h
  rcases (show c = 0 ∨ c = 1 ∨ c = 2 ∨ c = 3 ∨ c = 4 ∨ c = 5 ∨ c = 6 ∨ c = 7 ∨ c = 8 ∨ c = 9 ∨ c = 10 ∨ c = 11 ∨ c = 12 ∨ c = 13 ∨ c = 14 by omega) with e | e | e | e | e | e | e | e | e | e | e | e | e | e | e
  · subst e
    refine fin (nI np) ?_ ?_
    · unfold F_X8_account
      rw [if_pos (by decide), d1]
    · unfold D_X9_account_16
      rw [jlet_eq, stF_eq, if_pos rfl, if_pos (by decide), if_pos (by decide), e5]
  · subst e
    refine fin (nI nf) ?_ ?_
    · unfold F_X8_account
      rw [if_neg (by decide), if_pos (by decide), d3]
    · unfold D_X9_account_16
      rw [jlet_eq, stF_eq, if_pos rfl, if_neg (by decide), if_pos (by decide), if_pos (by decide), e38]
  · subst e
    refine fin (nI nu) ?_ ?_
    · unfold F_X8_account
      rw [if_neg (by decide), if_neg (by decide), if_pos (by decide), d5]
    · unfold D_X9_account_16
      rw [jlet_eq, stF_eq, if_pos rfl, if_neg (by decide), if_neg (by decide), if_pos (by decide), if_pos (by decide), show stF M 0 0 1 (159 : Int32).toNatClampNeg = nI nu from (m1 159).trans d6]
  · subst e
    refine fin (nI nr) ?_ ?_
    · unfold F_X8_account
      rw [if_neg (by decide), if_neg (by decide), if_neg (by decide), if_pos (by decide), d7]
    · unfold D_X9_account_16
      rw [jlet_eq, stF_eq, if_pos rfl, if_neg (by decide), if_neg (by decide), if_neg (by decide), if_pos (by decide), if_pos (by decide), show stF M 0 0 1 (180 : Int32).toNatClampNeg = nI nr from (m1 180).trans d8]
  · subst e
    refine fin (nI (sumN (svN (M 1) nu 0) nf)) ?_ ?_
    · unfold F_X8_account
      rw [if_neg (by decide), if_neg (by decide), if_neg (by decide), if_neg (by decide), if_pos (by decide), show F_X6_seatsOfAll 3000 (S 0) (0 : Int32) = some (nI (sumN (svN (M 1) nu 0) nf)) from (hall 0 (by omega)).1, Option.bind_some]
    · unfold D_X9_account_16
      rw [jlet_eq, stF_eq, if_pos rfl, if_neg (by decide), if_neg (by decide), if_neg (by decide), if_neg (by decide), if_pos (by decide)]
      exact (hall 0 (by omega)).2 _ (by decide)
  · subst e
    refine fin (nI (sumN (svN (M 1) nu 1) nf)) ?_ ?_
    · unfold F_X8_account
      rw [if_neg (by decide), if_neg (by decide), if_neg (by decide), if_neg (by decide), if_neg (by decide), if_pos (by decide), show F_X6_seatsOfAll 3000 (S 0) (1 : Int32) = some (nI (sumN (svN (M 1) nu 1) nf)) from (hall 1 (by omega)).1, Option.bind_some]
    · unfold D_X9_account_16
      rw [jlet_eq, stF_eq, if_pos rfl, if_neg (by decide), if_neg (by decide), if_neg (by decide), if_neg (by decide), if_neg (by decide), if_pos (by decide)]
      exact (hall 1 (by omega)).2 _ (by decide)
  · subst e
    refine fin (nI (sumN (svN (M 1) nu 2) nf)) ?_ ?_
    · unfold F_X8_account
      rw [if_neg (by decide), if_neg (by decide), if_neg (by decide), if_neg (by decide), if_neg (by decide), if_neg (by decide), if_pos (by decide), show F_X6_seatsOfAll 3000 (S 0) (2 : Int32) = some (nI (sumN (svN (M 1) nu 2) nf)) from (hall 2 (by omega)).1, Option.bind_some]
    · unfold D_X9_account_16
      rw [jlet_eq, stF_eq, if_pos rfl, if_neg (by decide), if_neg (by decide), if_neg (by decide), if_neg (by decide), if_neg (by decide), if_neg (by decide), if_pos (by decide)]
      exact (hall 2 (by omega)).2 _ (by decide)
  · subst e
    refine fin (M 1 3) ?_ ?_
    · unfold F_X8_account
      rw [if_neg (by decide), if_neg (by decide), if_neg (by decide), if_neg (by decide), if_neg (by decide), if_neg (by decide), if_neg (by decide), if_pos (by decide), htop.1]
    · unfold D_X9_account_16
      rw [jlet_eq, stF_eq, if_pos rfl, if_neg (by decide), if_neg (by decide), if_neg (by decide), if_neg (by decide), if_neg (by decide), if_neg (by decide), if_neg (by decide), if_pos (by decide), if_pos (by decide), show stF M 0 0 1 (3 : Int32).toNatClampNeg = M 1 3 from m1 3]
  · subst e
    refine fin (M 1 4) ?_ ?_
    · unfold F_X8_account
      rw [if_neg (by decide), if_neg (by decide), if_neg (by decide), if_neg (by decide), if_neg (by decide), if_neg (by decide), if_neg (by decide), if_neg (by decide), if_pos (by decide), htop.2.1]
    · unfold D_X9_account_16
      rw [jlet_eq, stF_eq, if_pos rfl, if_neg (by decide), if_neg (by decide), if_neg (by decide), if_neg (by decide), if_neg (by decide), if_neg (by decide), if_neg (by decide), if_neg (by decide), if_pos (by decide), if_pos (by decide), show stF M 0 0 1 (4 : Int32).toNatClampNeg = M 1 4 from m1 4]
  · subst e
    refine fin (sumI (fun p => tkS (M 1) p (M 1 (6 + 4 * p + 2)) nu nf) np) ?_ ?_
    · unfold F_X8_account
      rw [if_neg (by decide), if_neg (by decide), if_neg (by decide), if_neg (by decide), if_neg (by decide), if_neg (by decide), if_neg (by decide), if_neg (by decide), if_neg (by decide), if_pos (by decide), htk.1, Option.bind_some]
    · unfold D_X9_account_16
      rw [jlet_eq, stF_eq, if_pos rfl, if_neg (by decide), if_neg (by decide), if_neg (by decide), if_neg (by decide), if_neg (by decide), if_neg (by decide), if_neg (by decide), if_neg (by decide), if_neg (by decide), if_pos (by decide)]
      exact htk.2
  · subst e
    refine fin (M 1 0) ?_ ?_
    · unfold F_X8_account
      rw [if_neg (by decide), if_neg (by decide), if_neg (by decide), if_neg (by decide), if_neg (by decide), if_neg (by decide), if_neg (by decide), if_neg (by decide), if_neg (by decide), if_neg (by decide), if_pos (by decide), show rg 3 (S 0 1) (0 : Int32) = M 1 0 from hst 0 (by omega)]
    · unfold D_X9_account_16
      rw [jlet_eq, stF_eq, if_pos rfl, if_neg (by decide), if_neg (by decide), if_neg (by decide), if_neg (by decide), if_neg (by decide), if_neg (by decide), if_neg (by decide), if_neg (by decide), if_neg (by decide), if_neg (by decide), if_neg (by decide), if_neg (by decide), if_pos (by decide), show stF M 0 0 1 (((0 : Int32) + nI 10) - (10 : Int32)).toNatClampNeg = M 1 0 from m1 0]
  · subst e
    refine fin (M 1 1) ?_ ?_
    · unfold F_X8_account
      rw [if_neg (by decide), if_neg (by decide), if_neg (by decide), if_neg (by decide), if_neg (by decide), if_neg (by decide), if_neg (by decide), if_neg (by decide), if_neg (by decide), if_neg (by decide), if_neg (by decide), if_pos (by decide), show rg 3 (S 0 1) (1 : Int32) = M 1 1 from hst 1 (by omega)]
    · unfold D_X9_account_16
      rw [jlet_eq, stF_eq, if_pos rfl, if_neg (by decide), if_neg (by decide), if_neg (by decide), if_neg (by decide), if_neg (by decide), if_neg (by decide), if_neg (by decide), if_neg (by decide), if_neg (by decide), if_neg (by decide), if_neg (by decide), if_neg (by decide), if_pos (by decide), show stF M 0 0 1 (((0 : Int32) + nI 11) - (10 : Int32)).toNatClampNeg = M 1 1 from m1 1]
  · subst e
    refine fin (M 1 2) ?_ ?_
    · unfold F_X8_account
      rw [if_neg (by decide), if_neg (by decide), if_neg (by decide), if_neg (by decide), if_neg (by decide), if_neg (by decide), if_neg (by decide), if_neg (by decide), if_neg (by decide), if_neg (by decide), if_neg (by decide), if_neg (by decide), if_pos (by decide), show rg 3 (S 0 1) (2 : Int32) = M 1 2 from hst 2 (by omega)]
    · unfold D_X9_account_16
      rw [jlet_eq, stF_eq, if_pos rfl, if_neg (by decide), if_neg (by decide), if_neg (by decide), if_neg (by decide), if_neg (by decide), if_neg (by decide), if_neg (by decide), if_neg (by decide), if_neg (by decide), if_neg (by decide), if_neg (by decide), if_neg (by decide), if_pos (by decide), show stF M 0 0 1 (((0 : Int32) + nI 12) - (10 : Int32)).toNatClampNeg = M 1 2 from m1 2]
  · subst e
    refine fin (nI len) ?_ ?_
    · unfold F_X8_account
      rw [if_neg (by decide), if_neg (by decide), if_neg (by decide), if_neg (by decide), if_neg (by decide), if_neg (by decide), if_neg (by decide), if_neg (by decide), if_neg (by decide), if_neg (by decide), if_neg (by decide), if_neg (by decide), if_neg (by decide), if_pos (by decide), l2]
    · unfold D_X9_account_16
      rw [jlet_eq, stF_eq, if_pos rfl, if_neg (by decide), if_neg (by decide), if_neg (by decide), if_neg (by decide), if_neg (by decide), if_neg (by decide), if_neg (by decide), if_neg (by decide), if_neg (by decide), if_neg (by decide), if_pos (by decide), stF_o (by decide), l3]
  · subst e
    refine fin (nI n) ?_ ?_
    · unfold F_X8_account
      rw [if_neg (by decide), if_neg (by decide), if_neg (by decide), if_neg (by decide), if_neg (by decide), if_neg (by decide), if_neg (by decide), if_neg (by decide), if_neg (by decide), if_neg (by decide), if_neg (by decide), if_neg (by decide), if_neg (by decide), if_neg (by decide), if_pos (by decide), hn2]
    · unfold D_X9_account_16
      rw [jlet_eq, stF_eq, if_pos rfl, if_neg (by decide), if_neg (by decide), if_neg (by decide), if_neg (by decide), if_neg (by decide), if_neg (by decide), if_neg (by decide), if_neg (by decide), if_neg (by decide), if_neg (by decide), if_neg (by decide), if_pos (by decide), stF_o (by decide), hn1]
/-! partner and fullness -/
theorem fp_n64le {r : UInt64} (h : r.toNat % 2 ^ 63 ≤ 2047 * 2 ^ 52) : vf_n64 r := by
  unfold vf_n64
  rw [UInt64.le_iff_toNat_le, UInt64.toNat_and]
  have e : (0x7fffffffffffffff : UInt64).toNat = 2 ^ 63 - 1 := rfl
  have e2 : (0x7ff0000000000000 : UInt64).toNat = 2047 * 2 ^ 52 := rfl
  rw [e, e2, Nat.and_two_pow_sub_one_eq_mod]
  omega
theorem fp_f2d {r : UInt32} (h : r.toNat % 2 ^ 31 < 189 * 2 ^ 23) : vf_n64 (FP.f2d r) := by
  have h1 : FP.Core.fIsNaN r = false := by
    cases hb : FP.Core.fIsNaN r with
    | false => rfl
    | true =>
      have := (FP.Core.isNaN_bits32 r).mp hb
      omega
  have h2 : FP.f2d r = FP.Core.f2d r := by
    unfold FP.f2d
    rw [h1]
    exact if_neg (by decide)
  rw [h2]
  refine fp_n64le ?_
  have h3 := FP.Core.f2d_out h1
  refine Classical.byContradiction (fun q => ?_)
  have h4 := (FP.Core.isNaN_bits (FP.Core.f2d r)).mpr (by omega)
  rw [h3] at h4
  cases h4
theorem je_partner : jE_partner (Rel RSea) := by
  intro S M v1 h
  obtain ⟨np, nf, nu, nr, hS⟩ := rel_rs h
  have hS' := hS
  obtain ⟨⟨c1, c2, c3, c4, d1, d2, d3, d4, d5, d6, d7, d8⟩, htop, hpro, -⟩ := hS'
  rcases zI_idx (n := np) (by omega) v1 with hz | ⟨ho, p, hp, rfl⟩
  · refine ⟨3000, (1, 0, S), 3000, (FP.fconst0, stF M 0 1), ?_, ?_, Or.inr rfl, ?_, fun q => absurd (show (1 : Int32) = 0 from q) (by decide), rel_thr RSea_loc h 1, fun q => absurd (show (1 : Int32) = 0 from q) (by decide)⟩
    · unfold F_X8_partner; rw [z_has3, Option.bind_some, d1, hz, if_neg (by decide)]; rfl
    · unfold F_X9_partner D_X9_partner_14
      rw [z_isProduction, Option.bind_some, d2, if_pos hz, jlet_eq, stF_eq, if_neg (show ¬ (1 : Int32) = 0 by decide)]
    · show stF M 0 1 0 0 = hk_partner 1
      rw [stF_eq]; rfl
  · have hne : ¬ jIn (nI p) 0 (nI np - 1) = 0 := by rw [ho]; decide
    have hS0 := hS_th hS 0
    have t5 : S 0 5 p = M 1 (6 + 4 * p + 3) := (hpro p hp).1.2.2.2
    refine ⟨3000, (0, FP.fdiv (FP.fmul (FP.i2f (tkS (M 1) p (M 1 (6 + 4 * p + 2)) nu nf)) (FP.i2f (M 1 (6 + 4 * p + 3)))) 1120403456, S), 3000, (_, stF M 0 0), ?_, ?_, Or.inl rfl, ?_, fun _ => rfl, rel_thr RSea_loc h 0, fun _ => fp_f2d (fp_divm _ _)⟩
    · unfold F_X8_partner; rw [z_has3, Option.bind_some, d1, ho, if_pos (by decide), c_takings (by omega) hS hp, Option.bind_some, zI_rg (by omega) (by omega), t5]
    · unfold F_X9_partner D_X9_partner_14
      rw [z_isProduction, Option.bind_some, d2, if_neg hne, jlet_eq, stF_eq, if_pos rfl, r_takings (by omega) hS0 hp, Option.bind_some, z_d (v2 := 3) p 3 rfl rfl (by omega) (by omega), Option.bind_some, stF_1]
    · show stF M 0 0 0 0 = hk_partner 0
      rw [stF_eq]; rfl
/-- all seats of the performances of a production; those sold or held -/
def psN (A : Nat → Int32) (p : Nat) : Nat → Nat := sumN (fun k => if (decide (A (39 + 4 * k + 0) = nI p)) = true then nv (A (nv (A (39 + 4 * k + 1)))) else 0)
def ptN (A : Nat → Int32) (p nu : Nat) : Nat → Nat := sumN (fun k => if (decide (A (39 + 4 * k + 0) = nI p)) = true then nv (A (39 + 4 * k + 3)) + nv (heldS A k nu) else 0)
theorem je_fullness : jE_fullness (Rel RSea) := by
  intro S M v1 h
  obtain ⟨np, nf, nu, nr, hS⟩ := rel_rs h
  have hS' := hS
  obtain ⟨⟨c1, c2, c3, c4, d1, d2, d3, d4, d5, d6, d7, d8⟩, htop, hpro, hper, -⟩ := hS'
  rcases zI_idx (n := np) (by omega) v1 with hz | ⟨ho, p, hp, rfl⟩
  · refine ⟨3000, (1, 0, S), 3000, (FP.dconst0, stF M 0 1), ?_, ?_, Or.inr (Or.inl rfl), ?_, fun q => absurd (show (1 : Int32) = 0 from q) (by decide), rel_thr RSea_loc h 1, fun q => absurd (show (1 : Int32) = 0 from q) (by decide)⟩
    · unfold F_X8_fullness; rw [z_has3, Option.bind_some, d1, hz, if_neg (by decide)]; rfl
    · unfold F_X9_fullness D_X9_fullness_14
      rw [z_isProduction, Option.bind_some, d2, if_pos hz, jlet_eq, stF_eq, if_neg (show ¬ (1 : Int32) = 0 by decide)]
    · show stF M 0 1 0 0 = hk_fullness 1
      rw [stF_eq]; rfl
  have hne : ¬ jIn (nI p) 0 (nI np - 1) = 0 := by rw [ho]; decide
  have hS0 := hS_th hS 0
  have e38 : stF M 0 0 1 (38 : Int32).toNatClampNeg = nI nf := RS4_d4 hS0
  have hk : ∀ k, k < nf → ∃ s w hh z, s < 3 ∧ z ≤ 99 ∧ w + hh ≤ z ∧ S 0 7 k = M 1 (39 + 4 * k + 0) ∧ S 0 8 k = nI s ∧ S 0 1 s = nI z ∧ F_X2_taken 3000 (S 0) (nI k) = some (nI (w + hh)) ∧ M 1 (39 + 4 * k + 1) = nI s ∧ M 1 s = nI z ∧ M 1 (39 + 4 * k + 3) = nI w ∧ F_X9_heldAt 3000 (stF M 0 0) (nI k) = some (nI hh) ∧ nv (M 1 (nv (M 1 (39 + 4 * k + 1)))) = z ∧ nv (M 1 (39 + 4 * k + 3)) + nv (heldS (M 1) k nu) = w + hh := fun k hk => by
    obtain ⟨s, w, hh, z, f1, f2, f3, f4, f5, f6, f7, f8, f9, f10, f11, f12, f13, f14, f15⟩ := z_free1 (N := 3000) (by omega) hS0 hk
    rw [stF_1] at f8 f9 f10 f11
    exact ⟨s, w, hh, z, f1, f2, f3, (hper k hk).1.1, f4, f7, f14, f9, f11, f8, f12, by rw [f9, nv_nI (by omega), f11, nv_nI (by omega)], by rw [f8, f10, nv_nI (by omega), nv_nI (by omega)]⟩
  have hall : F_X6_seatsOfProduction 3000 (S 0) (nI p) 1 = some (nI (psN (M 1) p nf)) := by
    unfold F_X6_seatsOfProduction
    refine loopN (fun n a i => D_X6_seatsOfProduction_5 3000 (S 0) n (nI p) 1 a i) (fun i => nI (psN (M 1) p i)) nf _ (fun n => ?_) (fun n i hi => ?_) nf 3000 0 (by omega) (by omega)
    · show D_X6_seatsOfProduction_5 3000 (S 0) (n + 1) (nI p) 1 (nI (psN (M 1) p nf)) (nI nf) = _
      rw [D_X6_seatsOfProduction_5, d3, if_pos (ile_t (Nat.le_refl nf) (by omega))]
    · show D_X6_seatsOfProduction_5 3000 (S 0) (n + 1) (nI p) 1 (nI (psN (M 1) p i)) (nI i) = D_X6_seatsOfProduction_5 3000 (S 0) n (nI p) 1 (nI (psN (M 1) p i + (if (decide (M 1 (39 + 4 * i + 0) = nI p)) = true then nv (M 1 (nv (M 1 (39 + 4 * i + 1)))) else 0))) (nI (i + 1))
      obtain ⟨s, w, hh, z, g1, g2, g3, g4, g5, g6, g7, g8, g9, g10, g11, g12, g13⟩ := hk i hi
      rw [D_X6_seatsOfProduction_5, d3, if_neg (ile_f hi (by omega)), zI_rg (by omega) (by omega), zI_rg (by omega) (by omega), g4, g5, zI_rg g1 (by omega), g6, zI_succ, g12, if_neg (show ¬ (1 : Int32) = 0 by decide), zI_add]
      by_cases hb : M 1 (39 + 4 * i + 0) = nI p
      · rw [if_pos hb, decide_eq_true hb, if_pos rfl]
      · rw [if_neg hb, decide_eq_false hb, if_neg (by decide)]; rfl
  have htk : F_X6_seatsOfProduction 3000 (S 0) (nI p) 0 = some (nI (ptN (M 1) p nu nf)) := by
    unfold F_X6_seatsOfProduction
    refine loopN (fun n a i => D_X6_seatsOfProduction_5 3000 (S 0) n (nI p) 0 a i) (fun i => nI (ptN (M 1) p nu i)) nf _ (fun n => ?_) (fun n i hi => ?_) nf 3000 0 (by omega) (by omega)
    · show D_X6_seatsOfProduction_5 3000 (S 0) (n + 1) (nI p) 0 (nI (ptN (M 1) p nu nf)) (nI nf) = _
      rw [D_X6_seatsOfProduction_5, d3, if_pos (ile_t (Nat.le_refl nf) (by omega))]
    · show D_X6_seatsOfProduction_5 3000 (S 0) (n + 1) (nI p) 0 (nI (ptN (M 1) p nu i)) (nI i) = D_X6_seatsOfProduction_5 3000 (S 0) n (nI p) 0 (nI (ptN (M 1) p nu i + (if (decide (M 1 (39 + 4 * i + 0) = nI p)) = true then nv (M 1 (39 + 4 * i + 3)) + nv (heldS (M 1) i nu) else 0))) (nI (i + 1))
      obtain ⟨s, w, hh, z, g1, g2, g3, g4, g5, g6, g7, g8, g9, g10, g11, g12, g13⟩ := hk i hi
      rw [D_X6_seatsOfProduction_5, d3, if_neg (ile_f hi (by omega)), zI_rg (by omega) (by omega), g4, g7, Option.bind_some, zI_succ, g13, if_pos rfl, zI_add]
      by_cases hb : M 1 (39 + 4 * i + 0) = nI p
      · rw [if_pos hb, decide_eq_true hb, if_pos rfl]
      · rw [if_neg hb, decide_eq_false hb, if_neg (by decide)]; rfl
  have hrf : F_X9_fullness 3000 M (nI p) = if nI (psN (M 1) p nf) = 0 then (D_X9_fullness_109 3000 (stF M 0 0) (nI (ptN (M 1) p nu nf)) (nI (psN (M 1) p nf)) 2) else (D_X9_fullness_109 3000 (stF M 0 0) (nI (ptN (M 1) p nu nf)) (nI (psN (M 1) p nf)) 0) := by
    unfold F_X9_fullness D_X9_fullness_14
    rw [z_isProduction, Option.bind_some, d2, if_neg hne, jlet_eq, stF_eq, if_pos rfl]
    refine loopN (fun n (a : Int32 × Int32) i => D_X9_fullness_33 3000 n (stF M 0 0) (nI p) a.1 a.2 i) (fun i => (nI (ptN (M 1) p nu i), nI (psN (M 1) p i))) nf _ (fun n => ?_) (fun n i hi => ?_) nf 3000 0 (by omega) (by omega)
    · show D_X9_fullness_33 3000 (n + 1) (stF M 0 0) (nI p) (nI (ptN (M 1) p nu nf)) (nI (psN (M 1) p nf)) (nI nf) = _
      rw [D_X9_fullness_33, if_pos (by decide), e38, if_pos (ile_t (Nat.le_refl nf) (by omega))]
    · show D_X9_fullness_33 3000 (n + 1) (stF M 0 0) (nI p) (nI (ptN (M 1) p nu i)) (nI (psN (M 1) p i)) (nI i) = D_X9_fullness_33 3000 n (stF M 0 0) (nI p) (nI (ptN (M 1) p nu i + (if (decide (M 1 (39 + 4 * i + 0) = nI p)) = true then nv (M 1 (39 + 4 * i + 3)) + nv (heldS (M 1) i nu) else 0))) (nI (psN (M 1) p i + (if (decide (M 1 (39 + 4 * i + 0) = nI p)) = true then nv (M 1 (nv (M 1 (39 + 4 * i + 1)))) else 0))) (nI (i + 1))
      obtain ⟨s, w, hh, z, g1, g2, g3, g4, g5, g6, g7, g8, g9, g10, g11, g12, g13⟩ := hk i hi
      rw [D_X9_fullness_33, if_pos (by decide), e38, if_neg (ile_f hi (by omega)), z_p (v2 := 0) i 0 rfl rfl (by omega) (by omega), Option.bind_some, z_p (v2 := 3) i 3 rfl rfl (by omega) (by omega), Option.bind_some, g11, Option.bind_some, z_p (v2 := 1) i 1 rfl rfl (by omega) (by omega), Option.bind_some, stF_1, g8, g10, zI_succ, show (0 : Int32) + nI s = nI s from Int32.zero_add _, if_pos (zI_inb (n := s) (by omega) (by omega)), zI_nat (by omega), g9, zI_add, zI_add, zI_add]
      by_cases hb : M 1 (39 + 4 * i + 0) = nI p
      · rw [if_pos hb, decide_eq_true hb, if_pos rfl, if_pos rfl]
        rw [g8] at g12
        rw [g10] at g13
        rw [g12, g13]
      · rw [if_neg hb, decide_eq_false hb, if_neg (by decide), if_neg (by decide)]; rfl
  have hps : psN (M 1) p nf ≤ nf * 99 := sumN_bd (fun k hk' => by
    obtain ⟨s, w, hh, z, g1, g2, g3, g4, g5, g6, g7, g8, g9, g10, g11, g12, g13⟩ := hk k hk'
    by_cases hb : (decide (M 1 (39 + 4 * k + 0) = nI p)) = true
    · rw [if_pos hb, g12]; exact g2
    · rw [if_neg hb]; exact Nat.zero_le _)
  by_cases h0 : psN (M 1) p nf = 0
  · rw [h0, if_pos (show nI 0 = 0 from rfl)] at hrf
    rw [h0] at hall
    refine ⟨3000, (6, 0, S), 3000, (FP.dconst0, stF (stF M 0 0) 0 2), ?_, ?_, Or.inr (Or.inr rfl), ?_, fun q => absurd (show (6 : Int32) = 0 from q) (by decide), rel_thr RSea_loc (rel_thr RSea_loc h 0) 2, fun q => absurd (show (6 : Int32) = 0 from q) (by decide)⟩
    · unfold F_X8_fullness
      rw [z_has3, Option.bind_some, d1, ho, if_pos (by decide), hall, Option.bind_some, if_neg (by decide)]
    · unfold D_X9_fullness_109 at hrf
      rw [jlet_eq, stF_eq, if_neg (show ¬ (2 : Int32) = 0 by decide)] at hrf
      exact hrf
    · show stF (stF M 0 0) 0 2 0 0 = hk_fullness 6
      rw [stF_eq]; rfl
  · have hz : ¬ nI (psN (M 1) p nf) = 0 := ine (b := 0) h0 (by omega) (by omega)
    rw [if_neg hz] at hrf
    refine ⟨3000, (0, FP.ddiv (FP.i2d (nI (ptN (M 1) p nu nf))) (FP.i2d (nI (psN (M 1) p nf))), S), 3000, (_, stF (stF M 0 0) 0 0), ?_, ?_, Or.inl rfl, ?_, fun _ => rfl, rel_thr RSea_loc (rel_thr RSea_loc h 0) 0, fun _ => fp_ddiv _ hz⟩
    · unfold F_X8_fullness
      rw [z_has3, Option.bind_some, d1, ho, if_pos (by decide), hall, Option.bind_some, if_pos (show (0 : Int32) < nI (psN (M 1) p nf) from (zI_lt (a := 0) (by omega) (by omega)).mpr (by omega)), htk, Option.bind_some, if_pos (decide_eq_true hz)]
    · unfold D_X9_fullness_109 at hrf
      rw [jlet_eq, stF_eq, if_pos rfl, if_pos (decide_eq_true hz)] at hrf
      exact hrf
    · show stF (stF M 0 0) 0 0 0 0 = hk_fullness 0
      rw [stF_eq]; rfl
