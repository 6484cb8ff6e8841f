/-! performance, on, waiting, subscription -/
theorem c_countFor {N : Nat} {T : RM} {nr k : Nat} (hN : 24 < N) (hnr : nr ≤ 20) (d7 : T 0 5 = nI nr) : F_X4_countFor N T (nI k) = some (nI (forK k (rqT T nr)).length) := by
  unfold F_X4_countFor
  refine loopN (fun n a i => D_X4_countFor_4 N T n (nI k) a i) (fun i => nI (forK k (rqT T i)).length) nr _ (fun n => ?_) (fun n i hi => ?_) nr N 0 (by omega) (by omega)
  · show D_X4_countFor_4 N T (n + 1) (nI k) (nI (forK k (rqT T nr)).length) (nI nr) = _
    rw [D_X4_countFor_4, d7, if_pos (ile_t (Nat.le_refl nr) (by omega))]
  · show D_X4_countFor_4 N T (n + 1) (nI k) (nI (forK k (rqT T i)).length) (nI i) = D_X4_countFor_4 N T n (nI k) (nI (forK k (rqT T (i + 1))).length) (nI (i + 1))
    have hs := forK_len_step (k := k) (l := rqT T i) (x := (T 15 i, T 16 i, T 17 i))
    rw [← rqT_succ] at hs
    have hs : (forK k (rqT T (i + 1))).length = (forK k (rqT T i)).length + (if T 15 i = nI k then 1 else 0) := hs
    rw [D_X4_countFor_4, d7, if_neg (ile_f hi (by omega)), zI_rg (by omega) (by omega), zI_succ, zI_succ]
    by_cases h : T 15 i = nI k
    · rw [if_pos h] at hs ⊢
      rw [hs]
    · rw [if_neg h] at hs ⊢
      rw [hs]; rfl
theorem r_requestsFor {N : Nat} {M : RM} {nr k : Nat} (hN : 24 < N) (hnr : nr ≤ 20) (d8 : M 1 180 = nI nr) : F_X9_requestsFor N M (nI k) = some (nI (forK k (rqA (M 1) nr)).length) := by
  have e180 : M 1 (180 : Int32).toNatClampNeg = nI nr := d8
  unfold F_X9_requestsFor
  refine loopN (fun n a i => D_X9_requestsFor_4 N M n (nI k) a i) (fun i => nI (forK k (rqA (M 1) i)).length) nr _ (fun n => ?_) (fun n i hi => ?_) nr N 0 (by omega) (by omega)
  · show D_X9_requestsFor_4 N M (n + 1) (nI k) (nI (forK k (rqA (M 1) nr)).length) (nI nr) = _
    rw [D_X9_requestsFor_4, if_pos (by decide), e180, if_pos (ile_t (Nat.le_refl nr) (by omega))]
  · show D_X9_requestsFor_4 N M (n + 1) (nI k) (nI (forK k (rqA (M 1) i)).length) (nI i) = D_X9_requestsFor_4 N M n (nI k) (nI (forK k (rqA (M 1) (i + 1))).length) (nI (i + 1))
    have hs := forK_len_step (k := k) (l := rqA (M 1) i) (x := (M 1 (181 + 3 * i), M 1 (181 + 3 * i + 1), M 1 (181 + 3 * i + 2)))
    rw [← rqA_succ] at hs
    have hs : (forK k (rqA (M 1) (i + 1))).length = (forK k (rqA (M 1) i)).length + (if M 1 (181 + 3 * i + 0) = nI k then 1 else 0) := hs
    rw [D_X9_requestsFor_4, if_pos (by decide), e180, if_neg (ile_f hi (by omega)), z_r (v2 := 0) i 0 rfl rfl (by omega) (by omega), Option.bind_some, zI_succ, zI_succ, Int32.add_zero]
    by_cases h : M 1 (181 + 3 * i + 0) = nI k
    · rw [if_pos h] at hs ⊢
      rw [hs]
    · rw [if_neg h] at hs ⊢
      rw [hs]; rfl
theorem req_len {T : RM} {A : Nat → Int32} {nf nr k : Nat} (hreq : RReq T A nf nr) (hk : k < nf) : (forK k (rqT T nr)).length = (forK k (rqA A nr)).length := by
  rw [hreq.1 k hk, byP_len (fun x hx => by
    obtain ⟨t, t1, t2⟩ := rqA_mem (List.mem_filter.mp hx).1
    obtain ⟨-, -, -, z, z1, z2⟩ := hreq.2 t t1
    exact ⟨z, z2, by rw [t2]; exact z1⟩)]
theorem je_performance : jE_performance (Rel RSea) := by
  intro S M v1 v2 h
  obtain ⟨np, nf, nu, nr, hS⟩ := rel_rs h
  have hS' := hS
  obtain ⟨⟨c1, c2, c3, c4, d1, d2, d3, d4, d5, d6, d7, d8⟩, htop, hpro, hper, hapt, hsub, hreq, hcrw⟩ := hS'
  rcases zI_idx (n := nf) (by omega) v1 with hz | ⟨ho, k, hk, rfl⟩
  · refine ⟨3000, (1, 0, S), 3000, (0, stF M 0 1), ?_, ?_, Or.inr (Or.inl rfl), ?_, fun q => absurd (show (1 : Int32) = 0 from q) (by decide), rel_thr RSea_loc h 1⟩
    · unfold F_X8_performance; rw [z_has2, Option.bind_some, d3, hz, if_neg (by decide)]; rfl
    · unfold F_X9_performance D_X9_performance_28
      rw [z_isPerformance, Option.bind_some, d4, if_pos hz, jlet_eq, stF_eq, if_neg (show ¬ (1 : Int32) = 0 by decide)]
    · show stF M 0 1 0 0 = hk_performance 1
      rw [stF_eq]; rfl
  have hne : ¬ jIn (nI k) 0 (nI nf - 1) = 0 := by rw [ho]; decide
  by_cases hv : jIn v2 0 7 = 0
  · have hnot : ∀ c : Nat, c ≤ 7 → ¬ v2 = nI c := fun c hc e => by
      have := jIn_0.mp hv
      rw [e] at this
      exact this ⟨zI_pos (by omega), ile_t (b := 7) hc (by omega)⟩
    refine ⟨3000, (2, 0, S), 3000, (0, stF M 0 2), ?_, ?_, Or.inr (Or.inr rfl), ?_, fun q => absurd (show (2 : Int32) = 0 from q) (by decide), rel_thr RSea_loc h 2⟩
    · unfold F_X8_performance; rw [z_has2, Option.bind_some, d3, ho, if_pos (by decide), if_neg (show ¬ v2 = 0 from hnot 0 (by omega)), if_neg (show ¬ v2 = 1 from hnot 1 (by omega)), if_neg (show ¬ v2 = 2 from hnot 2 (by omega)), if_neg (show ¬ v2 = 3 from hnot 3 (by omega)), if_neg (show ¬ v2 = 4 from hnot 4 (by omega)), if_neg (show ¬ v2 = 5 from hnot 5 (by omega)), if_neg (show ¬ v2 = 6 from hnot 6 (by omega)), if_neg (show ¬ v2 = 7 from hnot 7 (by omega))]
    · unfold F_X9_performance D_X9_performance_28
      rw [z_isPerformance, Option.bind_some, d4, if_neg hne, z_in, Option.bind_some, if_pos hv, jlet_eq, stF_eq, if_neg (show ¬ (2 : Int32) = 0 by decide)]
    · show stF M 0 2 0 0 = hk_performance 2
      rw [stF_eq]; rfl
  obtain ⟨c, rfl, -, hc⟩ := zI_btw (a := 0) (b := 7) (by decide) (by decide) (Decidable.not_not.mp (fun q => hv (jIn_0.mpr q)))
  obtain ⟨⟨a1, a2, a3, a4, a5, a6⟩, -⟩ := hper k hk
  have hS0 := hS_th hS 0
  obtain ⟨s, w, hh, z, f1, f2, f3, f4, f5, f6, f7, f8, f9, f10, f11, f12, f13, f14, f15⟩ := z_free1 (N := 3000) (by omega) hS0 hk
  have hcl : F_X8_performance 3000 S (nI k) (nI c) = if nI c = 0 then some ((0 : Int32), S 0 7 k, S) else if nI c = 1 then some ((0 : Int32), S 0 8 k, S) else if nI c = 2 then some ((0 : Int32), S 0 9 k, S) else if nI c = 3 then ((F_X6_seatsAt 3000 (S 0) (nI k) (0 : Int32)).bind (fun r9 => some ((0 : Int32), r9, S))) else if nI c = 4 then ((F_X6_seatsAt 3000 (S 0) (nI k) (1 : Int32)).bind (fun r8 => some ((0 : Int32), r8, S))) else if nI c = 5 then ((F_X6_seatsAt 3000 (S 0) (nI k) (2 : Int32)).bind (fun r7 => some ((0 : Int32), r7, S))) else if nI c = 6 then ((F_X4_countFor 3000 (S 0) (nI k)).bind (fun r6 => some ((0 : Int32), r6, S))) else if nI c = 7 then some ((0 : Int32), S 0 12 k, S) else some ((2 : Int32), (0 : Int32), S) := by
    have e : ∀ f : Nat → Int32, rg 24 f (nI k) = f k := fun f => zI_rg (by omega) (by omega)
    unfold F_X8_performance
    rw [z_has2, Option.bind_some, d3, ho, if_pos (by decide), e, e, e, e]
  have hrf : F_X9_performance 3000 M (nI k) (nI c) = if nI c = 4 then ((F_X9_heldAt 3000 (stF M 0 0) (nI k)).bind (fun r7 => some (r7, stF M 0 0))) else if nI c = 5 then ((F_X9_freeAt 3000 (stF M 0 0) (nI k)).bind (fun r6 => some (r6, stF M 0 0))) else if nI c = 6 then ((F_X9_requestsFor 3000 (stF M 0 0) (nI k)).bind (fun r5 => some (r5, stF M 0 0))) else if nI c = 7 then ((F_X9_subscriptionsAt 3000 (stF M 0 0) (nI k)).bind (fun r4 => some (r4, stF M 0 0))) else ((F_X9_p 3000 (stF M 0 0) (nI k) (nI c)).bind (fun r3 => some (r3, stF M 0 0))) := by
    unfold F_X9_performance D_X9_performance_28
    rw [z_isPerformance, Option.bind_some, d4, if_neg hne, z_in, Option.bind_some, if_neg hv, jlet_eq, stF_eq, if_pos rfl]
  have fin : ∀ v, F_X8_performance 3000 S (nI k) (nI c) = some (0, v, S) → F_X9_performance 3000 M (nI k) (nI c) = some (v, stF M 0 0) → ∃ (N1 : Nat) (rc : _) (N2 : Nat) (rm : _), F_X8_performance N1 S (nI k) (nI c) = some rc ∧ F_X9_performance N2 M (nI k) (nI c) = some rm ∧ (rc.1 = 0 ∨ rc.1 = 1 ∨ rc.1 = 2) ∧ rm.2 0 0 = hk_performance rc.1 ∧ (rc.1 = 0 → rc.2.1 = rm.1) ∧ Rel RSea rc.2.2 rm.2 := fun v g1 g2 =>
    ⟨3000, _, 3000, _, g1, g2, Or.inl rfl, (show stF M 0 0 0 0 = hk_performance 0 by rw [stF_eq]; rfl), fun _ => rfl, rel_thr RSea_loc h 0⟩
  have hp4 : ∀ x, x < 4 → F_X9_p 3000 (stF M 0 0) (nI k) (nI x) = some (M 1 (39 + 4 * k + x)) := fun x hx => by
    rw [z_p k x rfl rfl (by omega) hx, stF_1]
  rcases (show c = 0 ∨ c = 1 ∨ c = 2 ∨ c = 3 ∨ c = 4 ∨ c = 5 ∨ c = 6 ∨ c = 7 by omega) with e | e | e | e | e | e | e | e
  · subst e
    rw [if_pos (by decide)] at hcl
    rw [if_neg (by decide), if_neg (by decide), if_neg (by decide), if_neg (by decide), hp4 0 (by omega), Option.bind_some] at hrf
    exact fin _ hcl (hrf.trans (by rw [← a1]))
  · subst e
    rw [if_neg (by decide), if_pos (by decide)] at hcl
    rw [if_neg (by decide), if_neg (by decide), if_neg (by decide), if_neg (by decide), hp4 1 (by omega), Option.bind_some] at hrf
    exact fin _ hcl (hrf.trans (by rw [← a2]))
  · subst e
    rw [if_neg (by decide), if_neg (by decide), if_pos (by decide)] at hcl
    rw [if_neg (by decide), if_neg (by decide), if_neg (by decide), if_neg (by decide), hp4 2 (by omega), Option.bind_some] at hrf
    exact fin _ hcl (hrf.trans (by rw [← a3]))
  · subst e
    rw [if_neg (by decide), if_neg (by decide), if_neg (by decide), if_pos (by decide)] at hcl
    rw [if_neg (by decide), if_neg (by decide), if_neg (by decide), if_neg (by decide), hp4 3 (by omega), Option.bind_some] at hrf
    unfold F_X6_seatsAt at hcl
    rw [if_pos rfl, Option.bind_some, zI_rg (by omega) (by omega)] at hcl
    exact fin _ hcl (hrf.trans (by rw [← a4]))
  · subst e
    rw [if_neg (by decide), if_neg (by decide), if_neg (by decide), if_neg (by decide), if_pos (by decide)] at hcl
    rw [if_pos (by decide), f12, Option.bind_some] at hrf
    unfold F_X6_seatsAt at hcl
    rw [if_neg (by decide), if_pos rfl, Option.bind_some, zI_rg (by omega) (by omega), f6] at hcl
    exact fin _ hcl hrf
  · subst e
    rw [if_neg (by decide), if_neg (by decide), if_neg (by decide), if_neg (by decide), if_neg (by decide), if_pos (by decide), f15, Option.bind_some] at hcl
    rw [if_neg (by decide), if_pos (by decide), f13, Option.bind_some] at hrf
    exact fin _ hcl hrf
  · subst e
    rw [if_neg (by decide), if_neg (by decide), if_neg (by decide), if_neg (by decide), if_neg (by decide), if_neg (by decide), if_pos (by decide), c_countFor (by omega) c4 d7, Option.bind_some, req_len hreq hk] at hcl
    rw [if_neg (by decide), if_neg (by decide), if_pos (by decide), r_requestsFor (nr := nr) (by omega) c4 (by rw [stF_1]; exact d8), Option.bind_some, stF_1] at hrf
    exact fin _ hcl hrf
  · subst e
    rw [if_neg (by decide), if_neg (by decide), if_neg (by decide), if_neg (by decide), if_neg (by decide), if_neg (by decide), if_neg (by decide), if_pos (by decide)] at hcl
    have i135 : (135 : Int32) + nI k = nI (135 + k) := zI_add 135 k
    unfold F_X9_subscriptionsAt at hrf
    rw [if_neg (by decide), if_neg (by decide), if_neg (by decide), if_pos (by decide), i135, if_pos (zI_inb (by omega) (by omega)), Option.bind_some, zI_nat (by omega), stF_1] at hrf
    exact fin _ hcl (hrf.trans (by rw [← a6]))
/-! on -/
def PN (M : RM) (a b : Int32) (k : Nat) : Prop := M 1 (39 + 4 * k + 1) = a ∧ M 1 (39 + 4 * k + 2) = b
theorem c_findAt {N : Nat} {T M : RM} {np nf nu nr : Nat} (hN : 24 < N) (hS : RS4 T (M 1) np nf nu nr) (a b : Int32) : ((∀ k, k < nf → ¬ PN M a b k) ∧ F_X2_find N T a b = some (-1)) ∨ ∃ k, k < nf ∧ PN M a b k ∧ (∀ x, x < k → ¬ PN M a b x) ∧ F_X2_find N T a b = some (nI k) := by
  have c2 := hS.1.2.1
  have d3 := RS4_d3 hS
  have h89 : ∀ i, i < nf → T 8 i = M 1 (39 + 4 * i + 1) ∧ T 9 i = M 1 (39 + 4 * i + 2) := fun i hi => ⟨(hS.2.2.2.1 i hi).1.2.1, (hS.2.2.2.1 i hi).1.2.2.1⟩
  unfold F_X2_find
  rcases loopE (fun n i => D_X2_find_2 N T n a b i) (PN M a b) nf (some (-1)) (fun k => some (nI k))
    (fun n => by
      show D_X2_find_2 N T (n + 1) a b (nI nf) = some (-1)
      rw [D_X2_find_2, d3, if_pos (ile_t (Nat.le_refl nf) (by omega))])
    (fun n i hi hp => by
      show D_X2_find_2 N T (n + 1) a b (nI i) = D_X2_find_2 N T n a b (nI (i + 1))
      rw [D_X2_find_2, d3, if_neg (ile_f hi (by omega)), zI_rg (by omega) (by omega), zI_rg (by omega) (by omega), (h89 i hi).1, (h89 i hi).2, zI_succ]
      by_cases h1 : M 1 (39 + 4 * i + 1) = a
      · rw [if_pos h1, if_neg (fun h2 => hp ⟨h1, h2⟩)]
      · rw [if_neg h1])
    (fun n i hi hp => by
      show D_X2_find_2 N T (n + 1) a b (nI i) = some (nI i)
      rw [D_X2_find_2, d3, if_neg (ile_f hi (by omega)), zI_rg (by omega) (by omega), zI_rg (by omega) (by omega), (h89 i hi).1, (h89 i hi).2, if_pos hp.1, if_pos hp.2]) nf N 0 (by omega) (by omega) with ⟨x, y⟩ | ⟨j, _, x, y, z, w⟩
  · exact Or.inl ⟨fun k hk => x k (Nat.zero_le k) hk, y⟩
  · exact Or.inr ⟨j, x, y, fun k hk => z k (Nat.zero_le k) hk, w⟩
theorem je_on : jE_on (Rel RSea) := by
  intro S M v1 v2 h
  obtain ⟨np, nf, nu, nr, hS⟩ := rel_rs h
  have hS' := hS
  obtain ⟨⟨c1, c2, c3, c4, d1, d2, d3, d4, d5, d6, d7, d8⟩, -⟩ := hS'
  by_cases hv : jIn v1 0 2 = 0
  · refine ⟨3000, (1, 0, S), 3000, (0, stF M 0 1), ?_, ?_, Or.inr (Or.inl rfl), ?_, fun q => absurd (show (1 : Int32) = 0 from q) (by decide), rel_thr RSea_loc h 1⟩
    · unfold F_X8_on; rw [hv, if_neg (by decide)]; rfl
    · unfold F_X9_on
      rw [z_isStage, Option.bind_some, if_pos hv, jlet_eq, stF_eq, if_neg (show ¬ (1 : Int32) = 0 by decide)]
    · show stF M 0 1 0 0 = hk_on 1
      rw [stF_eq]; rfl
  have hj : jIn v1 0 2 = 1 := by rw [jIn_eq, if_pos (Decidable.not_not.mp (fun q => hv (jIn_0.mpr q)))]
  by_cases hw : jIn v2 0 29 = 0
  · refine ⟨3000, (2, 0, S), 3000, (0, stF M 0 2), ?_, ?_, Or.inr (Or.inr (Or.inl rfl)), ?_, fun q => absurd (show (2 : Int32) = 0 from q) (by decide), rel_thr RSea_loc h 2⟩
    · unfold F_X8_on; rw [hj, if_pos (by decide), hw, if_neg (show ¬ ckArgument 0 = 0 by decide)]; rfl
    · unfold F_X9_on
      rw [z_isStage, Option.bind_some, if_neg hv, z_isDate, Option.bind_some, if_pos hw, jlet_eq, stF_eq, if_neg (show ¬ (2 : Int32) = 0 by decide)]
    · show stF M 0 2 0 0 = hk_on 2
      rw [stF_eq]; rfl
  have hj2 : jIn v2 0 29 = 1 := by rw [jIn_eq, if_pos (Decidable.not_not.mp (fun q => hw (jIn_0.mpr q)))]
  have hcl : F_X8_on 3000 S v1 v2 = (F_X2_find 3000 (S 0) v1 v2).bind (fun r5 => if r5 = (-1 : Int32) then some ((5 : Int32), (0 : Int32), S) else some ((0 : Int32), r5, S)) := by
    unfold F_X8_on; rw [hj, if_pos (by decide), hj2, if_pos (show ckArgument 1 = 0 by decide)]
  have e38 : stF M 0 0 1 (38 : Int32).toNatClampNeg = nI nf := by rw [stF_1]; exact d4
  have hrf : F_X9_on 3000 M v1 v2 = D_X9_on_38 3000 3000 (stF M 0 0) v1 v2 (nI 0) := by
    unfold F_X9_on
    rw [z_isStage, Option.bind_some, if_neg hv, z_isDate, Option.bind_some, if_neg hw, jlet_eq, stF_eq, if_pos rfl]
    rfl
  have hl := loopE (fun n i => D_X9_on_38 3000 n (stF M 0 0) v1 v2 i) (PN M v1 v2) nf (some (0, stF (stF M 0 0) 0 3)) (fun k => some (nI k, stF M 0 0))
    (fun n => by
      show D_X9_on_38 3000 (n + 1) (stF M 0 0) v1 v2 (nI nf) = _
      rw [D_X9_on_38, if_pos (by decide), e38, if_pos (ile_t (Nat.le_refl nf) (by omega)), jlet_eq])
    (fun n i hi hp => by
      show D_X9_on_38 3000 (n + 1) (stF M 0 0) v1 v2 (nI i) = D_X9_on_38 3000 n (stF M 0 0) v1 v2 (nI (i + 1))
      rw [D_X9_on_38, if_pos (by decide), e38, if_neg (ile_f hi (by omega)), z_p (v2 := 1) i 1 rfl rfl (by omega) (by omega), Option.bind_some, z_p (v2 := 2) i 2 rfl rfl (by omega) (by omega), Option.bind_some, stF_1, zI_succ]
      by_cases h1 : M 1 (39 + 4 * i + 1) = v1
      · rw [if_pos h1, if_neg (fun h2 => hp ⟨h1, h2⟩)]
      · rw [if_neg h1])
    (fun n i hi hp => by
      show D_X9_on_38 3000 (n + 1) (stF M 0 0) v1 v2 (nI i) = _
      rw [D_X9_on_38, if_pos (by decide), e38, if_neg (ile_f hi (by omega)), z_p (v2 := 1) i 1 rfl rfl (by omega) (by omega), Option.bind_some, z_p (v2 := 2) i 2 rfl rfl (by omega) (by omega), Option.bind_some, stF_1, if_pos hp.1, if_pos hp.2]) nf 3000 0 (by omega) (by omega)
  rcases c_findAt (N := 3000) (by omega) hS v1 v2 with ⟨x1, x2⟩ | ⟨k, x1, x2, x3, x4⟩
  · rcases hl with ⟨y1, y2⟩ | ⟨j, _, y1, y2, y3, y4⟩
    · refine ⟨3000, (5, 0, S), 3000, _, ?_, hrf.trans y2, Or.inr (Or.inr (Or.inr rfl)), ?_, fun q => absurd (show (5 : Int32) = 0 from q) (by decide), rel_thr RSea_loc (rel_thr RSea_loc h 0) 3⟩
      · rw [hcl, x2, Option.bind_some, if_pos rfl]
      · show stF (stF M 0 0) 0 3 0 0 = hk_on 5
        rw [stF_eq]; rfl
    · exact absurd y2 (x1 j y1)
  · rcases hl with ⟨y1, y2⟩ | ⟨j, _, y1, y2, y3, y4⟩
    · exact absurd x2 (y1 k (Nat.zero_le k) x1)
    · have e : k = j := least_eq (m := nf) (fun _ _ => Iff.rfl) x1 y1 x2 x3 y2 (fun x hx => y3 x (Nat.zero_le x) hx)
      subst e
      refine ⟨3000, (0, nI k, S), 3000, _, ?_, hrf.trans y4, Or.inl rfl, ?_, fun _ => rfl, rel_thr RSea_loc h 0⟩
      · rw [hcl, x4, Option.bind_some, if_neg (show ¬ nI k = -1 from zI_ne_neg (by omega))]
      · show stF M 0 0 0 0 = hk_on 0
        rw [stF_eq]; rfl
/-! waiting -/
theorem je_waiting : jE_waiting (Rel RSea) := by
  intro S M v1 v2 v3 h
  obtain ⟨np, nf, nu, nr, hS⟩ := rel_rs h
  have hS' := hS
  obtain ⟨⟨c1, c2, c3, c4, d1, d2, d3, d4, d5, d6, d7, d8⟩, htop, hpro, hper, hapt, hsub, hreq, hcrw⟩ := hS'
  rcases zI_idx (n := nf) (by omega) v1 with hz | ⟨ho, k, hk, rfl⟩
  · refine ⟨3000, (1, 0, S), 3000, (0, stF M 0 1), ?_, ?_, Or.inr (Or.inl rfl), ?_, fun q => absurd (show (1 : Int32) = 0 from q) (by decide), rel_thr RSea_loc h 1⟩
    · unfold F_X8_waiting; rw [z_has2, Option.bind_some, d3, hz, if_neg (by decide)]; rfl
    · unfold F_X9_waiting D_X9_waiting_14
      rw [z_isPerformance, Option.bind_some, d4, if_pos hz, jlet_eq, stF_eq, if_neg (show ¬ (1 : Int32) = 0 by decide)]
    · show stF M 0 1 0 0 = hk_waiting 1
      rw [stF_eq]; rfl
  have hne : ¬ jIn (nI k) 0 (nI nf - 1) = 0 := by rw [ho]; decide
  have hcl : F_X8_waiting 3000 S (nI k) v2 v3 = (F_X4_find 3000 (S 0) (nI k) v2).bind (fun r3 => if r3 = (-1 : Int32) then some ((5 : Int32), (0 : Int32), S) else if v3 = 0 then some ((0 : Int32), (rg 20 (S 0 16) r3), S) else some ((0 : Int32), (rg 20 (S 0 17) r3), S)) := by
    unfold F_X8_waiting
    rw [z_has2, Option.bind_some, d3, ho, if_pos (by decide)]
  have hrf : F_X9_waiting 3000 M (nI k) v2 v3 = (F_X9_requestAt 3000 (stF M 0 0) (nI k) v2).bind (fun r8 => if r8 = (-1 : Int32) then (D_X9_waiting_46 3000 (stF M 0 0) v3 r8 (2 : Int32)) else (D_X9_waiting_46 3000 (stF M 0 0) v3 r8 (0 : Int32))) := by
    unfold F_X9_waiting D_X9_waiting_14
    rw [z_isPerformance, Option.bind_some, d4, if_neg hne, jlet_eq, stF_eq, if_pos rfl]
  have none : F_X4_find 3000 (S 0) (nI k) v2 = some (-1) → F_X9_requestAt 3000 (stF M 0 0) (nI k) v2 = some (-1) → ∃ (N1 : Nat) (rc : _) (N2 : Nat) (rm : _), F_X8_waiting N1 S (nI k) v2 v3 = some rc ∧ F_X9_waiting N2 M (nI k) v2 v3 = some rm ∧ (rc.1 = 0 ∨ rc.1 = 1 ∨ rc.1 = 5) ∧ rm.2 0 0 = hk_waiting rc.1 ∧ (rc.1 = 0 → rc.2.1 = rm.1) ∧ Rel RSea rc.2.2 rm.2 := by
    intro g1 g2
    refine ⟨3000, (5, 0, S), 3000, (0, stF (stF M 0 0) 0 2), ?_, ?_, Or.inr (Or.inr rfl), ?_, fun q => absurd (show (5 : Int32) = 0 from q) (by decide), rel_thr RSea_loc (rel_thr RSea_loc h 0) 2⟩
    · rw [hcl, g1, Option.bind_some, if_pos rfl]
    · rw [hrf, g2, Option.bind_some, if_pos rfl]
      unfold D_X9_waiting_46
      rw [jlet_eq, stF_eq, if_neg (show ¬ (2 : Int32) = 0 by decide)]
    · show stF (stF M 0 0) 0 2 0 0 = hk_waiting 5
      rw [stF_eq]; rfl
  by_cases hneg : v2 < 0
  · refine none (c_find_neg (by omega) c4 d7 hneg) ?_
    unfold F_X9_requestAt
    rw [D_X9_requestAt_6, if_neg (by decide), if_pos hneg]
  · have hpos := Int32.not_lt.mp hneg
    have hv2 := zI_of hpos
    have hb : v2.toNatClampNeg < 2 ^ 31 := by
      have h3 : v2.toInt < 2 ^ 31 := Int32.toInt_lt v2
      have e2 : v2.toNatClampNeg = v2.toInt.toNat := rfl
      omega
    generalize v2.toNatClampNeg = p at hv2 hb
    subst hv2
    have d8' : stF M 0 0 1 180 = nI nr := by rw [stF_1]; exact d8
    rcases z_find (N := 3000) (T := S 0) (M := stF M 0 0) (by omega) c4 d7 d8' hb (by rw [stF_1]; exact hreq) hk with ⟨-, x2, x3⟩ | ⟨i, q, i1, q1, x2, x3, t15, a0, a1, a2, -⟩
    · exact none x2 x3
    · rw [stF_1] at a1 a2
      rw [x2, Option.bind_some, if_neg (show ¬ nI i = -1 from zI_ne_neg (by omega)), zI_rg (by omega) (by omega), zI_rg (by omega) (by omega)] at hcl
      rw [x3, Option.bind_some, if_neg (show ¬ nI q = -1 from zI_ne_neg (by omega))] at hrf
      unfold D_X9_waiting_46 at hrf
      rw [jlet_eq, stF_eq, if_pos rfl, z_r (v2 := 1) q 1 rfl rfl (by omega) (by omega), Option.bind_some, z_r (v2 := 2) q 2 rfl rfl (by omega) (by omega), Option.bind_some, stF_1, stF_1] at hrf
      by_cases h3 : v3 = 0
      · rw [if_pos h3] at hcl hrf
        refine ⟨3000, _, 3000, _, hcl, hrf, Or.inl rfl, ?_, fun _ => a1, rel_thr RSea_loc (rel_thr RSea_loc h 0) 0⟩
        show stF (stF M 0 0) 0 0 0 0 = hk_waiting 0
        rw [stF_eq]; rfl
      · rw [if_neg h3] at hcl hrf
        refine ⟨3000, _, 3000, _, hcl, hrf, Or.inl rfl, ?_, fun _ => a2, rel_thr RSea_loc (rel_thr RSea_loc h 0) 0⟩
        show stF (stF M 0 0) 0 0 0 0 = hk_waiting 0
        rw [stF_eq]; rfl
/-! subscription -/
theorem je_subscription : jE_subscription (Rel RSea) := by
  intro S M v1 v2 h
  obtain ⟨np, nf, nu, nr, hS⟩ := rel_rs h
  have hS' := hS
  obtain ⟨⟨c1, c2, c3, c4, d1, d2, d3, d4, d5, d6, d7, d8⟩, htop, hpro, hper, hapt, hsub, hreq, hcrw⟩ := hS'
  rcases zI_idx (n := nu) (by omega) v1 with hz | ⟨ho, u, hu, rfl⟩
  · refine ⟨3000, (1, 0, S), 3000, (0, stF M 0 1), ?_, ?_, Or.inr (Or.inl rfl), ?_, fun q => absurd (show (1 : Int32) = 0 from q) (by decide), rel_thr RSea_loc h 1⟩
    · unfold F_X8_subscription; rw [z_has7, Option.bind_some, d5, hz, if_neg (by decide)]; rfl
    · unfold F_X9_subscription D_X9_subscription_27
      rw [z_isSubscription, Option.bind_some, d6, if_pos hz, jlet_eq, stF_eq, if_neg (show ¬ (1 : Int32) = 0 by decide)]
    · show stF M 0 1 0 0 = hk_subscription 1
      rw [stF_eq]; rfl
  have hne : ¬ jIn (nI u) 0 (nI nu - 1) = 0 := by rw [ho]; decide
  have hok := hok_of hS
  have hhf := c_heldFor (N := 3000) (u := u) (by omega) c2 (by omega) d3 hok
  by_cases hv : jIn v2 0 3 = 0
  · have hnot : ∀ c : Nat, c ≤ 3 → ¬ v2 = nI c := fun c hc e => by
      have := jIn_0.mp hv
      rw [e] at this
      exact this ⟨zI_pos (by omega), ile_t (b := 3) hc (by omega)⟩
    refine ⟨3000, (2, 0, S), 3000, (0, stF M 0 2), ?_, ?_, Or.inr (Or.inr rfl), ?_, fun q => absurd (show (2 : Int32) = 0 from q) (by decide), rel_thr RSea_loc h 2⟩
    · unfold F_X8_subscription; rw [z_has7, Option.bind_some, d5, ho, if_pos (by decide), hhf, Option.bind_some, if_neg (show ¬ v2 = 0 from hnot 0 (by omega)), if_neg (show ¬ v2 = 1 from hnot 1 (by omega)), if_neg (show ¬ v2 = 2 from hnot 2 (by omega)), if_neg (show ¬ v2 = 3 from hnot 3 (by omega))]
    · unfold F_X9_subscription D_X9_subscription_27
      rw [z_isSubscription, Option.bind_some, d6, if_neg hne, z_in, Option.bind_some, if_pos hv, jlet_eq, stF_eq, if_neg (show ¬ (2 : Int32) = 0 by decide)]
    · show stF M 0 2 0 0 = hk_subscription 2
      rw [stF_eq]; rfl
  obtain ⟨c, rfl, -, hc⟩ := zI_btw (a := 0) (b := 3) (by decide) (by decide) (Decidable.not_not.mp (fun q => hv (jIn_0.mpr q)))
  obtain ⟨s1, s2, -⟩ := hsub u hu
  have hcl : F_X8_subscription 3000 S (nI u) (nI c) = if nI c = 0 then some ((0 : Int32), S 0 13 u, S) else if nI c = 1 then some ((0 : Int32), bcnt (nI (hsN (S 0) u nf)), S) else if nI c = 2 then some ((0 : Int32), S 0 14 u, S) else if nI c = 3 then some ((0 : Int32), nI (hsN (S 0) u nf), S) else some ((2 : Int32), (0 : Int32), S) := by
    unfold F_X8_subscription
    rw [z_has7, Option.bind_some, d5, ho, if_pos (by decide), hhf, Option.bind_some, zI_rg (by omega) (by omega), zI_rg (by omega) (by omega)]
  have hrf : F_X9_subscription 3000 M (nI u) (nI c) = if nI c = 1 then ((F_X9_holdsAt 3000 (stF M 0 0) (nI u)).bind (fun r10 => some (r10, stF M 0 0))) else if nI c = 3 then (D_X9_subscription_75 3000 3000 (stF M 0 0) (nI u) (0 : Int32) (0 : Int32)) else if nI c = 0 then ((F_X9_u 3000 (stF M 0 0) (nI u) (0 : Int32)).bind (fun r7 => some (r7, stF M 0 0))) else ((F_X9_u 3000 (stF M 0 0) (nI u) (1 : Int32)).bind (fun r6 => some (r6, stF M 0 0))) := by
    unfold F_X9_subscription D_X9_subscription_27
    rw [z_isSubscription, Option.bind_some, d6, if_neg hne, z_in, Option.bind_some, if_neg hv, jlet_eq, stF_eq, if_pos rfl]
  have fin : ∀ v, F_X8_subscription 3000 S (nI u) (nI c) = some (0, v, S) → F_X9_subscription 3000 M (nI u) (nI c) = some (v, stF M 0 0) → ∃ (N1 : Nat) (rc : _) (N2 : Nat) (rm : _), F_X8_subscription N1 S (nI u) (nI c) = some rc ∧ F_X9_subscription N2 M (nI u) (nI c) = some rm ∧ (rc.1 = 0 ∨ rc.1 = 1 ∨ rc.1 = 2) ∧ rm.2 0 0 = hk_subscription rc.1 ∧ (rc.1 = 0 → rc.2.1 = rm.1) ∧ Rel RSea rc.2.2 rm.2 := fun v g1 g2 =>
    ⟨3000, _, 3000, _, g1, g2, Or.inl rfl, (show stF M 0 0 0 0 = hk_subscription 0 by rw [stF_eq]; rfl), fun _ => rfl, rel_thr RSea_loc h 0⟩
  have hS0 := hS_th hS 0
  have hok0 := hok_of hS0
  rcases (show c = 0 ∨ c = 1 ∨ c = 2 ∨ c = 3 by omega) with e | e | e | e
  · subst e
    rw [if_pos (by decide)] at hcl
    rw [if_neg (by decide), if_neg (by decide), if_pos (by decide), z_u (v2 := 0) u 0 rfl rfl (by omega) (by omega), Option.bind_some, stF_1] at hrf
    exact fin _ hcl (hrf.trans (by rw [← s1]))
  · subst e
    rw [if_neg (by decide), if_pos (by decide), hs_pop c2 hok] at hcl
    rw [if_pos (by decide), r_holdsAt (by omega) c2 (by omega) (RS4_d4 hS0) hok0, Option.bind_some, stF_1] at hrf
    exact fin _ hcl hrf
  · subst e
    rw [if_neg (by decide), if_neg (by decide), if_pos (by decide)] at hcl
    rw [if_neg (by decide), if_neg (by decide), if_neg (by decide), z_u (v2 := 1) u 1 rfl rfl (by omega) (by omega), Option.bind_some, stF_1] at hrf
    exact fin _ hcl (hrf.trans (by rw [← s2]))
  · subst e
    rw [if_neg (by decide), if_neg (by decide), if_neg (by decide), if_pos (by decide)] at hcl
    rw [if_neg (by decide), if_pos (by decide)] at hrf
    have e38 : stF M 0 0 1 (38 : Int32).toNatClampNeg = nI nf := RS4_d4 hS0
    have hl := loopN (fun n a i => D_X9_subscription_75 3000 n (stF M 0 0) (nI u) a i) (fun i => nI (hsN (S 0) u i)) nf (some (nI (hsN (S 0) u nf), stF M 0 0)) (fun n => by
      show D_X9_subscription_75 3000 (n + 1) (stF M 0 0) (nI u) (nI (hsN (S 0) u nf)) (nI nf) = _
      rw [D_X9_subscription_75, if_pos (by decide), e38, if_pos (ile_t (Nat.le_refl nf) (by omega))]) (fun n i hi => by
      show D_X9_subscription_75 3000 (n + 1) (stF M 0 0) (nI u) (nI (hsN (S 0) u i)) (nI i) = D_X9_subscription_75 3000 n (stF M 0 0) (nI u) (nI (hsN (S 0) u (i + 1))) (nI (i + 1))
      obtain ⟨b, b1, b2, b3⟩ := hok0 i hi
      have e0 : nI (hsN (S 0) u i) ||| (0 : Int32) = nI (hsN (S 0) u i) := by
        rw [show nI (hsN (S 0) u i) ||| (0 : Int32) = nI (hsN (S 0) u i ||| 0) from nI_or _ 0, Nat.or_zero]
      rw [D_X9_subscription_75, if_pos (by decide), e38, if_neg (ile_f hi (by omega)), r_holds (by omega) (by omega) b2, Option.bind_some, zI_succ, hsN, b1, nv_nI (by omega), nI_shl i (by omega), nI_or, e0]
      by_cases hb : b.testBit u = true
      · rw [if_pos hb, if_neg (by decide), if_pos hb]
      · rw [if_neg hb, if_pos rfl, if_neg hb]) nf 3000 0 (by omega) (by omega)
    exact fin _ hcl (hrf.trans hl)
