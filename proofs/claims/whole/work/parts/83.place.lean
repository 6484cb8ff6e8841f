/-! a performance laid down: what hinders it, on both sides -/
def PO (T : RM) (mv a b c : Int32) (k : Nat) : Prop := ¬ nI k = mv ∧ (T 8 k = b ∨ T 7 k = a) ∧ T 9 k = c
theorem c_findOther {N : Nat} {T : RM} {nf : Nat} {mv a b c : Int32} (hN : 24 < N) (hnf : nf ≤ 24) (d3 : T 0 3 = nI nf) : ((∀ k, k < nf → ¬ PO T mv a b c k) ∧ F_X2_findOther N T mv a b c = some (-1)) ∨ ∃ k, k < nf ∧ PO T mv a b c k ∧ (∀ x, x < k → ¬ PO T mv a b c x) ∧ F_X2_findOther N T mv a b c = some (nI k) := by
  unfold F_X2_findOther
  rcases loopE (fun n i => D_X2_findOther_3 N T n mv a b c i) (PO T mv a b c) nf (some (-1)) (fun k => some (nI k))
    (fun n => by
      show D_X2_findOther_3 N T (n + 1) mv a b c (nI nf) = some (-1)
      rw [D_X2_findOther_3, d3, if_pos (ile_t (Nat.le_refl nf) (by omega))])
    (fun n i hi hp => by
      show D_X2_findOther_3 N T (n + 1) mv a b c (nI i) = D_X2_findOther_3 N T n mv a b c (nI (i + 1))
      rw [D_X2_findOther_3, d3, if_neg (ile_f hi (by omega)), zI_rg (by omega) (by omega), zI_rg (by omega) (by omega)]
      unfold D_X2_findOther_43
      rw [zI_rg (by omega) (by omega), zI_succ]
      by_cases h0 : nI i = mv
      · rw [if_pos h0, if_pos h0, ite_self, ite_self]
      · rw [if_neg h0, if_neg h0, if_neg (show ¬ (1 : Int32) = 0 by decide), if_pos rfl]
        by_cases h9 : T 9 i = c
        · rw [if_neg (fun h8 => hp ⟨h0, Or.inl h8, h9⟩), if_neg (fun h7 => hp ⟨h0, Or.inr h7, h9⟩)]
        · rw [if_neg h9, ite_self, ite_self])
    (fun n i hi hp => by
      show D_X2_findOther_3 N T (n + 1) mv a b c (nI i) = some (nI i)
      obtain ⟨h0, h87, h9⟩ := hp
      rw [D_X2_findOther_3, d3, if_neg (ile_f hi (by omega)), zI_rg (by omega) (by omega), zI_rg (by omega) (by omega)]
      unfold D_X2_findOther_43
      rw [zI_rg (by omega) (by omega), zI_succ, if_neg h0, if_neg (show ¬ (1 : Int32) = 0 by decide), if_pos h9]
      by_cases h8 : T 8 i = b
      · rw [if_pos h8]
      · rw [if_neg h8, if_pos (h87.resolve_left h8)]) nf N 0 (by omega) (by omega) with ⟨x, y⟩ | ⟨j, _, x, y, z, w⟩
  · exact Or.inl ⟨fun k hk => x k (Nat.zero_le k) hk, y⟩
  · exact Or.inr ⟨j, x, y, fun k hk => z k (Nat.zero_le k) hk, w⟩
def PH (M : RM) (q k : Nat) : Prop := k ≠ q ∧ M 1 (39 + 4 * k + 2) = M 1 (39 + 4 * q + 2) ∧ (M 1 (39 + 4 * k + 1) = M 1 (39 + 4 * q + 1) ∨ M 1 (39 + 4 * k + 0) = M 1 (39 + 4 * q + 0))
theorem r_hind {N : Nat} {M : RM} {nf q : Nat} (hN : 24 < N) (hnf : nf ≤ 24) (hq : q < nf) (h38 : M 1 38 = nI nf) : ((∀ k, k < nf → ¬ PH M q k) ∧ D_X9_hinders_7 N N M (nI q) 0 = (F_X9_lacksStaff N M).bind (fun r4 => if r4.1 = 0 then ((F_X9_lacksRoom N r4.2).bind (fun r5 => if r5.1 = 0 then some ((r5.2 0 7), r5.2) else some ((r5.2 0 7), r5.2))) else some ((r4.2 0 7), r4.2))) ∨ ∃ k, k < nf ∧ PH M q k ∧ (∀ x, x < k → ¬ PH M q x) ∧ D_X9_hinders_7 N N M (nI q) 0 = some (1, stF (stF M 7 1) 8 (nI k)) := by
  have e38 : M 1 (38 : Int32).toNatClampNeg = nI nf := h38
  rcases loopE (fun n i => D_X9_hinders_7 N n M (nI q) i) (PH M q) nf ((F_X9_lacksStaff N M).bind (fun r4 => if r4.1 = 0 then ((F_X9_lacksRoom N r4.2).bind (fun r5 => if r5.1 = 0 then some ((r5.2 0 7), r5.2) else some ((r5.2 0 7), r5.2))) else some ((r4.2 0 7), r4.2))) (fun k => some (1, stF (stF M 7 1) 8 (nI k)))
    (fun n => by
      show D_X9_hinders_7 N (n + 1) M (nI q) (nI nf) = _
      rw [D_X9_hinders_7, if_pos (by decide), e38, if_pos (ile_t (Nat.le_refl nf) (by omega))])
    (fun n i hi hp => by
      show D_X9_hinders_7 N (n + 1) M (nI q) (nI i) = D_X9_hinders_7 N n M (nI q) (nI (i + 1))
      rw [D_X9_hinders_7, if_pos (by decide), e38, if_neg (ile_f hi (by omega))]
      by_cases hiq : i = q
      · rw [if_pos (by rw [hiq])]
        unfold D_X9_hinders_73
        rw [z_why0, Option.bind_some, if_pos rfl, zI_succ]
      · rw [if_neg (ine hiq (by omega) (by omega)), z_p (v2 := 2) i 2 rfl rfl (by omega) (by omega), z_p (v2 := 2) q 2 rfl rfl (by omega) (by omega), z_p (v2 := 1) i 1 rfl rfl (by omega) (by omega), z_p (v2 := 1) q 1 rfl rfl (by omega) (by omega), z_p (v2 := 0) i 0 rfl rfl (by omega) (by omega), z_p (v2 := 0) q 0 rfl rfl (by omega) (by omega)]
        simp only [Option.bind_some]
        unfold D_X9_hinders_73
        rw [z_why0, Option.bind_some, if_pos rfl, zI_succ]
        by_cases a2 : M 1 (39 + 4 * i + 2) = M 1 (39 + 4 * q + 2)
        · rw [if_pos a2, if_neg (fun a1 => hp ⟨hiq, a2, Or.inl a1⟩), if_neg (fun a0 => hp ⟨hiq, a2, Or.inr a0⟩)]
        · rw [if_neg a2])
    (fun n i hi hp => by
      show D_X9_hinders_7 N (n + 1) M (nI q) (nI i) = some (1, stF (stF M 7 1) 8 (nI i))
      obtain ⟨hiq, a2, a10⟩ := hp
      have e7 : stF (stF M 7 1) 8 (nI i) 0 7 = 1 := by rw [stF_o (by decide), stF_eq]
      rw [D_X9_hinders_7, if_pos (by decide), e38, if_neg (ile_f hi (by omega)), if_neg (ine hiq (by omega) (by omega)), z_p (v2 := 2) i 2 rfl rfl (by omega) (by omega), z_p (v2 := 2) q 2 rfl rfl (by omega) (by omega), z_p (v2 := 1) i 1 rfl rfl (by omega) (by omega), z_p (v2 := 1) q 1 rfl rfl (by omega) (by omega), z_p (v2 := 0) i 0 rfl rfl (by omega) (by omega), z_p (v2 := 0) q 0 rfl rfl (by omega) (by omega)]
      simp only [Option.bind_some]
      unfold D_X9_hinders_73
      rw [if_pos a2, z_why1, Option.bind_some, if_neg (show ¬ (1 : Int32) = 0 by decide)]
      dsimp only
      rw [e7]
      by_cases a1 : M 1 (39 + 4 * i + 1) = M 1 (39 + 4 * q + 1)
      · rw [if_pos a1]
      · rw [if_neg a1, if_pos (a10.resolve_left a1)]) nf N 0 (by omega) (by omega) with ⟨x, y⟩ | ⟨j, _, x, y, z, w⟩
  · exact Or.inl ⟨fun k hk => x k (Nat.zero_le k) hk, y⟩
  · exact Or.inr ⟨j, x, y, fun k hk => z k (Nat.zero_le k) hk, w⟩
theorem z_place {N : Nat} (hN : 30 < N) {T M M' : RM} {np nf nu nr nf' q P Sg d : Nat} {mv dw : Int32} (hS : RS4 T (M 1) np nf nu nr) (hP : P < np) (hSg : Sg < 3) (hd : d < 30) (hnf' : nf' ≤ 24) (hq : q < nf') (m38 : M' 1 38 = nI nf') (mlo : ∀ k, k < 38 → M' 1 k = M 1 k)
    (mq : M' 1 (39 + 4 * q + 0) = nI P ∧ M' 1 (39 + 4 * q + 1) = nI Sg ∧ M' 1 (39 + 4 * q + 2) = nI d)
    (mk : ∀ k, k < nf' → k ≠ q → k < nf ∧ ¬ nI k = mv ∧ M' 1 (39 + 4 * k + 0) = M 1 (39 + 4 * k + 0) ∧ M' 1 (39 + 4 * k + 1) = M 1 (39 + 4 * k + 1) ∧ M' 1 (39 + 4 * k + 2) = M 1 (39 + 4 * k + 2))
    (mk2 : ∀ k, k < nf → ¬ nI k = mv → k < nf' ∧ k ≠ q) (mv2 : ∀ k, k < nf → nI k = mv → M 1 (39 + 4 * k + 0) = nI P)
    (hdw : F_X6_datesWith N T mv (nI P) (nI d) = some dw)
    (hdm : ∃ m', dw = nI m' ∧ m' < 2 ^ 30 ∧ ∀ e, e < 30 → (m'.testBit e = true ↔ (∃ k, k < nf ∧ ¬ nI k = mv ∧ M 1 (39 + 4 * k + 0) = nI P ∧ M 1 (39 + 4 * k + 2) = nI e) ∨ e = d)) :
    (∃ a e : Nat, 1 ≤ a ∧ a ≤ 3 ∧ e < 1000 ∧ F_X6_placingRefusal N T mv (nI P) (nI Sg) (nI d) = some (jRef (nI a) (nI e)) ∧ F_X9_hinders N M' (nI q) = some (nI a, stF (stF (stF M' 7 0) 7 (nI a)) 8 (nI e))) ∨
    (F_X6_placingRefusal N T mv (nI P) (nI Sg) (nI d) = some 0 ∧ F_X9_hinders N M' (nI q) = some (0, stF M' 7 0) ∧ DC (DW T (nI P) dw) (M' 1) np nf' ∧ (∀ k, k < nf' → k ≠ q → M' 1 (39 + 4 * k + 2) = nI d → M' 1 (39 + 4 * k + 1) ≠ nI Sg ∧ M' 1 (39 + 4 * k + 0) ≠ nI P) ∧ ∀ e, e < 30 → crewN (DW T (nI P) dw) (T 3) np e ≤ nv (T 0 0)) := by
  have hS' := hS
  obtain ⟨⟨c1, c2, c3, c4, d1, d2, d3, d4, d5, d6, d7, d8⟩, htop, hpro, hper, hapt, hsub, hreq, hcrw⟩ := hS'
  have hDC := dc_of hS
  have hC := zcr_of hS
  have hZ := zsz_of hS
  obtain ⟨st, hst, hstb⟩ := htop.2.2.1
  obtain ⟨rm, hrm, hrmb⟩ := htop.2.2.2.1
  have t00 : T 0 0 = nI st := htop.1.trans hst
  have t01 : T 0 1 = nI rm := htop.2.1.trans hrm
  have e1 : stF M' 7 0 1 = M' 1 := stF_1
  have hPO : ∀ k, k < nf → (PO T mv (nI P) (nI Sg) (nI d) k ↔ (k < nf' ∧ PH (stF M' 7 0) q k)) := by
    intro k hk
    obtain ⟨⟨a1, a2, a3, -⟩, -⟩ := hper k hk
    unfold PO PH
    rw [e1, mq.1, mq.2.1, mq.2.2, a1, a2, a3]
    constructor
    · rintro ⟨h1, h2, h3⟩
      obtain ⟨g1, g2⟩ := mk2 k hk h1
      obtain ⟨-, -, g3, g4, g5⟩ := mk k g1 g2
      rw [g3, g4, g5]
      exact ⟨g1, g2, h3, h2⟩
    · rintro ⟨g1, g2, h2, h3⟩
      obtain ⟨-, g0, g3, g4, g5⟩ := mk k g1 g2
      rw [g3, g4] at h3
      rw [g5] at h2
      exact ⟨g0, h3, h2⟩
  have hco := c_findOther (N := N) (mv := mv) (a := nI P) (b := nI Sg) (c := nI d) (by omega) c2 d3
  have hrh := r_hind (N := N) (M := stF M' 7 0) (by omega) hnf' hq (by rw [e1]; exact m38)
  have hh : F_X9_hinders N M' (nI q) = D_X9_hinders_7 N N (stF M' 7 0) (nI q) 0 := rfl
  rcases hco with ⟨x1, x2⟩ | ⟨i, i1, i2, i3, i4⟩
  · rcases hrh with ⟨y1, y2⟩ | ⟨j, j1, j2, j3, j4⟩
    · have hDC' : DC (DW T (nI P) dw) (M' 1) np nf' := by
        refine ⟨fun p hp => ?_, fun k hk => ?_, fun i j hi hj hij he => ?_⟩
        · by_cases hpP : p = P
          · subst hpP
            obtain ⟨m', q1, q2, q3⟩ := hdm
            refine ⟨m', ?_, q2, fun e he => (q3 e he).trans ⟨?_, ?_⟩⟩
            · unfold DW; rw [if_pos rfl]; exact q1
            · rintro (⟨k, k1, k2, k3, k4⟩ | rfl)
              · obtain ⟨g1, g2⟩ := mk2 k k1 k2
                obtain ⟨-, -, g3, g4, g5⟩ := mk k g1 g2
                exact ⟨k, g1, by rw [g3]; exact k3, by rw [g5]; exact k4⟩
              · exact ⟨q, hq, mq.1, mq.2.2⟩
            · rintro ⟨k, k1, k2, k3⟩
              by_cases hkq : k = q
              · subst hkq
                rw [mq.2.2] at k3
                exact Or.inr ((zI_eq (by omega) (by omega)).mp k3).symm
              · obtain ⟨g0, g00, g3, g4, g5⟩ := mk k k1 hkq
                rw [g3] at k2
                rw [g5] at k3
                exact Or.inl ⟨k, g0, g00, k2, k3⟩
          · obtain ⟨m, q1, q2, q3⟩ := hDC.1 p hp
            refine ⟨m, ?_, q2, fun e he => (q3 e he).trans ⟨?_, ?_⟩⟩
            · unfold DW; rw [if_neg (ine hpP (by omega) (by omega))]; exact q1
            · rintro ⟨k, k1, k2, k3⟩
              have hkm : ¬ nI k = mv := fun hkm => by
                have h1 := (mv2 k k1 hkm).symm.trans k2
                exact hpP ((zI_eq (by omega) (by omega)).mp h1).symm
              obtain ⟨g1, g2⟩ := mk2 k k1 hkm
              obtain ⟨-, -, g3, g4, g5⟩ := mk k g1 g2
              exact ⟨k, g1, by rw [g3]; exact k2, by rw [g5]; exact k3⟩
            · rintro ⟨k, k1, k2, k3⟩
              have hkq : k ≠ q := fun hkq => by
                subst hkq
                rw [mq.1] at k2
                exact hpP ((zI_eq (by omega) (by omega)).mp k2).symm
              obtain ⟨g0, g00, g3, g4, g5⟩ := mk k k1 hkq
              rw [g3] at k2
              rw [g5] at k3
              exact ⟨k, g0, k2, k3⟩
        · by_cases hkq : k = q
          · subst hkq
            exact ⟨P, d, hP, hd, mq.1, mq.2.2⟩
          · obtain ⟨g0, g00, g3, g4, g5⟩ := mk k hk hkq
            rw [g3, g5]
            exact hDC.2.1 k g0
        · by_cases hiq : i = q
          · subst hiq
            have hj' := y1 j hj
            unfold PH at hj'
            rw [e1] at hj'
            exact fun e => hj' ⟨fun e' => hij e'.symm, he.symm, Or.inr e.symm⟩
          · by_cases hjq : j = q
            · subst hjq
              have hi' := y1 i hi
              unfold PH at hi'
              rw [e1] at hi'
              exact fun e => hi' ⟨hiq, he, Or.inr e⟩
            · obtain ⟨g0, g00, g3, g4, g5⟩ := mk i hi hiq
              obtain ⟨f0, f00, f3, f4, f5⟩ := mk j hj hjq
              rw [g3, f3]
              rw [g5, f5] at he
              exact hDC.2.2 i j g0 f0 hij he
      have hpl : F_X6_placingRefusal N T mv (nI P) (nI Sg) (nI d) = (F_X3_staffRefusalIf N T (nI st) (nI P) dw).bind (fun r3 => if r3 = 0 then ((F_X3_roomRefusalIf N T (nI rm) (nI P) dw).bind (fun r4 => some r4)) else some r3) := by
        unfold F_X6_placingRefusal
        rw [x2, Option.bind_some, if_pos rfl, hdw, Option.bind_some, t00, t01]
      have hfree : ∀ k, k < nf' → k ≠ q → M' 1 (39 + 4 * k + 2) = nI d → M' 1 (39 + 4 * k + 1) ≠ nI Sg ∧ M' 1 (39 + 4 * k + 0) ≠ nI P := by
        intro k hk hkq hkd
        have hk' := y1 k hk
        unfold PH at hk'
        rw [e1, mq.1, mq.2.1, mq.2.2] at hk'
        exact ⟨fun e => hk' ⟨hkq, hkd, Or.inl e⟩, fun e => hk' ⟨hkq, hkd, Or.inr e⟩⟩
      have e07 : stF M' 7 0 0 7 = 0 := stF_eq
      rcases staff_both (N := N) (T := T) (M := stF M' 7 0) (D := DW T (nI P) dw) (c := nI P) (cd := dw) hN c1 hnf' d1 (by rw [e1]; exact m38) (by rw [e1]; exact hDC') (fun _ _ => rfl) ⟨fun p hp => by rw [e1, mlo _ (by omega)]; exact hC.1 p hp, hC.2⟩ hstb (by rw [e1, mlo 3 (by omega)]; exact hst) with ⟨a1, a2, a3⟩ | ⟨e, e0, e2, e3, e4⟩
      · rcases room_both (N := N) (T := T) (M := stF M' 7 0) (D := DW T (nI P) dw) (c := nI P) (cd := dw) hN c1 hnf' d1 (by rw [e1, mlo 5 (by omega)]; exact d2) (by rw [e1]; exact m38) (by rw [e1]; exact hDC') (fun _ _ => rfl) ⟨fun p hp => by rw [e1, mlo _ (by omega)]; exact hZ.1 p hp, hZ.2⟩ hrmb (by rw [e1, mlo 4 (by omega)]; exact hrm) with ⟨b1, b2⟩ | ⟨e, e0, e3, e4⟩
        · refine Or.inr ⟨?_, ?_, hDC', hfree, fun e he => by rw [t00, nv_nI (by omega)]; exact a1 e he⟩
          · rw [hpl, a2, Option.bind_some, if_pos rfl, b1, Option.bind_some]
          · rw [hh, y2, a3, Option.bind_some, if_pos rfl, b2, Option.bind_some, if_pos rfl]
            dsimp only
            rw [e07]
        · refine Or.inl ⟨3, e, by omega, by omega, by omega, ?_, ?_⟩
          · rw [hpl, a2, Option.bind_some, if_pos rfl, e3, Option.bind_some]; rfl
          · have e7 : stF (stF (stF M' 7 0) 7 3) 8 (nI e) 0 7 = 3 := by rw [stF_o (by decide), stF_eq]
            rw [hh, y2, a3, Option.bind_some, if_pos rfl, e4, Option.bind_some, if_neg (show ¬ (1 : Int32) = 0 by decide)]
            dsimp only
            rw [e7]; rfl
      · refine Or.inl ⟨2, e, by omega, by omega, by omega, ?_, ?_⟩
        · rw [hpl, e3, Option.bind_some, if_neg (show ¬ jRef 2 (nI e) = 0 from jRef_ne0 (a := 2) (by omega) (by omega) (by omega))]; rfl
        · have e7 : stF (stF (stF M' 7 0) 7 2) 8 (nI e) 0 7 = 2 := by rw [stF_o (by decide), stF_eq]
          rw [hh, y2, e4, Option.bind_some, if_neg (show ¬ (1 : Int32) = 0 by decide)]
          dsimp only
          rw [e7]; rfl
    · obtain ⟨g0, -⟩ := mk j j1 j2.1
      exact absurd ((hPO j g0).mpr ⟨j1, j2⟩) (x1 j g0)
  · rcases hrh with ⟨y1, y2⟩ | ⟨j, j1, j2, j3, j4⟩
    · obtain ⟨g1, g2⟩ := (hPO i i1).mp i2
      exact absurd g2 (y1 i g1)
    · obtain ⟨g1, g2⟩ := (hPO i i1).mp i2
      obtain ⟨g0, -⟩ := mk j j1 j2.1
      have g3 := (hPO j g0).mpr ⟨j1, j2⟩
      have hij : i = j := by
        rcases Nat.lt_trichotomy i j with h | h | h
        · exact absurd g2 (j3 i h)
        · exact h
        · exact absurd g3 (i3 j h)
      subst hij
      refine Or.inl ⟨1, i, by omega, by omega, by omega, ?_, ?_⟩
      · unfold F_X6_placingRefusal
        rw [i4, Option.bind_some, if_neg (show ¬ nI i = -1 from zI_ne_neg (by omega))]; rfl
      · rw [hh, j4]; rfl
