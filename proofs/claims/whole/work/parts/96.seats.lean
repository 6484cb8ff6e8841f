/-! setSeats -/
theorem stage_loop {np nf nu st : Nat} : ∀ (dd n1 n2 i nr : Nat) (T M : RM), i + dd = nf → dd < n1 → dd < n2 → RS4 T (M 1) np nf nu nr → ∃ (nr' : Nat) (T' M' : RM), D_X6_serveStage_2 3000 n1 T (nI st) (nI i) = some T' ∧ D_X9_setsSeats_107 3000 n2 M (nI st) (nI i) = some (0, M') ∧ Near M M' ∧ (∀ x, M' 0 x = M 0 x) ∧ RS4 T' (M' 1) np nf nu nr' := by
  intro dd
  induction dd with
  | zero =>
    intro n1 n2 i nr T M hi h1 h2 hS
    obtain ⟨n1, rfl⟩ : ∃ k, n1 = k + 1 := ⟨n1 - 1, by omega⟩
    obtain ⟨n2, rfl⟩ : ∃ k, n2 = k + 1 := ⟨n2 - 1, by omega⟩
    have hi : i = nf := by omega
    have c2 := hS.1.2.1
    refine ⟨nr, T, M, ?_, ?_, near_refl M, fun _ => rfl, hS⟩
    · rw [D_X6_serveStage_2, RS4_d3 hS, hi, if_pos (ile_t (Nat.le_refl nf) (by omega))]
    · rw [D_X9_setsSeats_107, if_pos (by decide), show M 1 (38 : Int32).toNatClampNeg = nI nf from RS4_d4 hS, hi, if_pos (ile_t (Nat.le_refl nf) (by omega))]
  | succ dd ih =>
    intro n1 n2 i nr T M hi h1 h2 hS
    obtain ⟨n1, rfl⟩ : ∃ k, n1 = k + 1 := ⟨n1 - 1, by omega⟩
    obtain ⟨n2, rfl⟩ : ∃ k, n2 = k + 1 := ⟨n2 - 1, by omega⟩
    have c2 := hS.1.2.1
    have hin : i < nf := by omega
    have e8 := (hS.2.2.2.1 i hin).1.2.1
    rw [D_X6_serveStage_2, RS4_d3 hS, if_neg (ile_f hin (by omega)), zI_rg (by omega) (by omega), e8, D_X9_setsSeats_107, if_pos (show inb (38 : Int32) 2169 = true by decide), show M 1 (38 : Int32).toNatClampNeg = nI nf from RS4_d4 hS, if_neg (ile_f hin (by omega)), z_p (v2 := 1) i 1 rfl rfl (by omega) (by omega), Option.bind_some, zI_succ]
    by_cases hs : M 1 (39 + 4 * i + 1) = nI st
    · obtain ⟨nr1, T1, M1, r1, r2, r3, r4, r5, r6, r7⟩ := z_serve hin hS
      rw [if_pos hs, if_pos hs, r1, r2, Option.bind_some, Option.bind_some]
      obtain ⟨nr', T', M', q1, q2, q3, q4, q5⟩ := ih n1 n2 (i + 1) nr1 T1 M1 (by omega) (by omega) (by omega) r5
      exact ⟨nr', T', M', q1, q2, near_trans r3 q3, fun x => (q4 x).trans (r4 x), q5⟩
    · rw [if_neg hs, if_neg hs]
      exact ih n1 n2 (i + 1) nr T M (by omega) (by omega) (by omega) hS
def PS (M : RM) (nu st z : Nat) (k : Nat) : Prop := M 1 (39 + 4 * k + 1) = nI st ∧ ¬ nv (M 1 (39 + 4 * k + 3)) + nv (heldS (M 1) k nu) ≤ z
theorem jo_setSeats : jO_setSeats RSea := by
  intro T M hr v1 v2
  obtain ⟨np, nf, nu, nr, hS⟩ := rs_M.mp hr
  have hS' := hS
  obtain ⟨⟨c1, c2, c3, c4, d1, d2, d3, d4, d5, d6, d7, d8⟩, htop, hpro, hper, hapt, hsub, hreq, hcrw⟩ := hS'
  by_cases hv1 : jIn v1 0 2 = 0
  · refine ⟨(-1, T), (1, M), ?_, ?_, op_no (by decide) (Or.inl ⟨rfl, rfl⟩)⟩
    · unfold F_X6_changeSeats; rw [if_pos hv1]
    · unfold F_X9_setsSeats; rw [z_isStage, Option.bind_some, if_pos hv1]
  by_cases hv2 : jIn v2 10 99 = 0
  · refine ⟨(-2, T), (2, M), ?_, ?_, op_no (by decide) (Or.inr (Or.inl ⟨rfl, rfl⟩))⟩
    · unfold F_X6_changeSeats; rw [if_neg hv1, if_pos hv2]
    · unfold F_X9_setsSeats; rw [z_isStage, Option.bind_some, if_neg hv1, z_in, Option.bind_some, if_pos hv2]
  obtain ⟨st, rfl, -, hst⟩ := zI_btw (a := 0) (b := 2) (by decide) (by decide) (Decidable.not_not.mp (fun q => hv1 (jIn_0.mpr q)))
  obtain ⟨z, rfl, y1, y2⟩ := zI_btw (a := 10) (b := 99) (by decide) (by decide) (Decidable.not_not.mp (fun q => hv2 (jIn_0.mpr q)))
  have e38 : M 1 (38 : Int32).toNatClampNeg = nI nf := d4
  obtain ⟨tst, zo, zo1, zo2⟩ := htop.2.2.2.2 st (by omega)
  have i0 : (0 : Int32) + nI st = nI st := Int32.zero_add _
  have hcl0 : F_X6_changeSeats 3000 T (nI st) (nI z) = D_X6_changeSeats_25 3000 3000 T (nI st) (nI z) (nI 0) := by
    unfold F_X6_changeSeats; rw [if_neg hv1, if_neg hv2]; rfl
  have hrf0 : F_X9_setsSeats 3000 M (nI st) (nI z) = D_X9_setsSeats_24 3000 3000 M (nI st) (nI z) (nI 0) := by
    unfold F_X9_setsSeats; rw [z_isStage, Option.bind_some, if_neg hv1, z_in, Option.bind_some, if_neg hv2]; rfl
  have hk : ∀ k, k < nf → ∃ w h, w + h ≤ 99 ∧ T 8 k = M 1 (39 + 4 * k + 1) ∧ M 1 (39 + 4 * k + 3) = nI w ∧ heldS (M 1) k nu = nI h ∧ F_X9_heldAt 3000 M (nI k) = some (nI h) ∧ F_X2_taken 3000 T (nI k) = some (nI (w + h)) ∧ (PS M nu st z k ↔ M 1 (39 + 4 * k + 1) = nI st ∧ ¬ w + h ≤ z) := by
    intro k hk
    obtain ⟨s, w, h, z', f1, f2, f3, f4, f5, f6, f7, f8, f9, f10, f11, f12, f13, f14, f15⟩ := z_free1 (N := 3000) (by omega) hS hk
    refine ⟨w, h, by omega, f4.trans f9.symm, f8, f10, f12, f14, ?_⟩
    unfold PS
    rw [f8, f10, nv_nI (by omega), nv_nI (by omega)]
  have hcl := loopE (fun n i => D_X6_changeSeats_25 3000 n T (nI st) (nI z) i) (PS M nu st z) nf ((F_X6_serveStage 3000 (u1 T 1 (upd (T 1) st (nI z))) (nI st)).bind (fun r4 => some (nI zo, r4))) (fun k => some (jRef (nI 9) (nI k), T))
    (fun n => by
      show D_X6_changeSeats_25 3000 (n + 1) T (nI st) (nI z) (nI nf) = _
      rw [D_X6_changeSeats_25, d3, if_pos (ile_t (Nat.le_refl nf) (by omega)), zI_rs (by omega) (by omega), zI_rg (by omega) (by omega), tst, zo1]
      simp only [jlet])
    (fun n i hi hp => by
      show D_X6_changeSeats_25 3000 (n + 1) T (nI st) (nI z) (nI i) = D_X6_changeSeats_25 3000 n T (nI st) (nI z) (nI (i + 1))
      obtain ⟨w, h, g0, g1, g2, g3, g4, g5, g6⟩ := hk i hi
      rw [D_X6_changeSeats_25, d3, if_neg (ile_f hi (by omega)), zI_rg (by omega) (by omega), g1, g5, Option.bind_some, zI_succ]
      by_cases h8 : M 1 (39 + 4 * i + 1) = nI st
      · rw [if_pos h8, if_pos (ile_t (Classical.byContradiction (fun q => hp (g6.mpr ⟨h8, q⟩))) (by omega))]
      · rw [if_neg h8])
    (fun n i hi hp => by
      show D_X6_changeSeats_25 3000 (n + 1) T (nI st) (nI z) (nI i) = _
      obtain ⟨w, h, g0, g1, g2, g3, g4, g5, g6⟩ := hk i hi
      obtain ⟨p1, p2⟩ := g6.mp hp
      rw [D_X6_changeSeats_25, d3, if_neg (ile_f hi (by omega)), zI_rg (by omega) (by omega), g1, g5, Option.bind_some, if_pos p1, if_neg (ile_f (by omega) (by omega))]
      rfl) nf 3000 0 (by omega) (by omega)
  have hrf := loopE (fun n i => D_X9_setsSeats_24 3000 n M (nI st) (nI z) i) (PS M nu st z) nf (D_X9_setsSeats_107 3000 3000 (stA (stF M 6 (nI zo)) 1 (nI st) (nI z)) (nI st) (nI 0)) (fun k => some (4, stF (stF M 4 (nI 9)) 5 (nI k)))
    (fun n => by
      show D_X9_setsSeats_24 3000 (n + 1) M (nI st) (nI z) (nI nf) = _
      rw [D_X9_setsSeats_24, if_pos (by decide), e38, if_pos (ile_t (Nat.le_refl nf) (by omega)), i0, if_pos (zI_inb (by omega) (by omega))]
      simp only [jlet]
      rw [if_pos (zI_inb (by omega) (by omega)), zI_nat (by omega), zo1]
      rfl)
    (fun n i hi hp => by
      show D_X9_setsSeats_24 3000 (n + 1) M (nI st) (nI z) (nI i) = D_X9_setsSeats_24 3000 n M (nI st) (nI z) (nI (i + 1))
      obtain ⟨w, h, g0, g1, g2, g3, g4, g5, g6⟩ := hk i hi
      rw [D_X9_setsSeats_24, if_pos (by decide), e38, if_neg (ile_f hi (by omega)), z_p (v2 := 1) i 1 rfl rfl (by omega) (by omega), Option.bind_some, z_p (v2 := 3) i 3 rfl rfl (by omega) (by omega), Option.bind_some, g4, Option.bind_some, g2, zI_add]
      unfold D_X9_setsSeats_66
      rw [z_ref0, Option.bind_some, if_pos rfl, zI_succ]
      by_cases h8 : M 1 (39 + 4 * i + 1) = nI st
      · rw [if_pos h8, if_pos (ile_t (Classical.byContradiction (fun q => hp (g6.mpr ⟨h8, q⟩))) (by omega))]
      · rw [if_neg h8])
    (fun n i hi hp => by
      show D_X9_setsSeats_24 3000 (n + 1) M (nI st) (nI z) (nI i) = _
      obtain ⟨w, h, g0, g1, g2, g3, g4, g5, g6⟩ := hk i hi
      obtain ⟨p1, p2⟩ := g6.mp hp
      rw [D_X9_setsSeats_24, if_pos (by decide), e38, if_neg (ile_f hi (by omega)), z_p (v2 := 1) i 1 rfl rfl (by omega) (by omega), Option.bind_some, z_p (v2 := 3) i 3 rfl rfl (by omega) (by omega), Option.bind_some, g4, Option.bind_some, g2, zI_add, if_pos p1, if_neg (ile_f (by omega) (by omega)), z_ref1, Option.bind_some, if_neg (show ¬ (1 : Int32) = 0 by decide)]
      rfl) nf 3000 0 (by omega) (by omega)
  rcases hcl with ⟨x1, x2⟩ | ⟨i, _, x1, x2, x3, x4⟩
  · rcases hrf with ⟨w1, w2⟩ | ⟨j, _, w1, w2, w3, w4⟩
    · have x2 := hcl0.trans x2
      have w2 := hrf0.trans w2
      have row : stA (stF M 6 (nI zo)) 1 (nI st) (nI z) 1 = upd (M 1) st (nI z) := by rw [stA_1 (by omega), stF_1]
      have n1 : Near M (stA (stF M 6 (nI zo)) 1 (nI st) (nI z)) := near_trans (near_stF (Or.inl rfl)) (near_stA (by omega))
      have h06 : stA (stF M 6 (nI zo)) 1 (nI st) (nI z) 0 6 = nI zo := by rw [stA_ne (by decide), stF_eq]
      generalize stA (stF M 6 (nI zo)) 1 (nI st) (nI z) = M1 at w2 row n1 h06
      have aN : ∀ c, c ≠ st → M1 1 c = M 1 c := fun c hc => by rw [row, upd_ne hc]
      have aS : M1 1 st = nI z := by rw [row, upd_eq]
      have tj : ∀ r, r ≠ 1 → u1 T 1 (upd (T 1) st (nI z)) r = T r := fun r hr => u1_ne hr
      have t1 : u1 T 1 (upd (T 1) st (nI z)) 1 = upd (T 1) st (nI z) := u1_eq
      have hS1 : RS4 (u1 T 1 (upd (T 1) st (nI z))) (M1 1) np nf nu nr := by
        generalize u1 T 1 (upd (T 1) st (nI z)) = T1 at tj t1
        have t0 : T1 0 = T 0 := tj 0 (by decide)
        refine ⟨⟨c1, c2, c3, c4, by rw [t0]; exact d1, (aN 5 (by omega)).trans d2, by rw [t0]; exact d3, (aN 38 (by omega)).trans d4, by rw [t0]; exact d5, (aN 159 (by omega)).trans d6, by rw [t0]; exact d7, (aN 180 (by omega)).trans d8⟩, ⟨?_, ?_, ?_, ?_, fun s hs => ?_⟩,
          RPro_c c1 c2 (tj 2 (by decide)) (tj 3 (by decide)) (tj 4 (by decide)) (tj 5 (by decide)) (tj 6 (by decide)) (fun x h1 h2 => aN x (by omega)) (fun x h1 h2 => aN x (by omega)) hpro, fun k hk' => ?_, RApt_c c2 (fun x h1 h2 => aN x (by omega)) hapt, RSub_c (fun _ _ => by rw [tj 13 (by decide)]) (fun _ _ => by rw [tj 14 (by decide)]) (fun u hu => ⟨aN _ (by omega), aN _ (by omega)⟩) hsub, RReq_c c4 (tj 15 (by decide)) (tj 16 (by decide)) (tj 17 (by decide)) (fun x h1 h2 => aN x (by omega)) hreq, fun d hd => ?_⟩
        · rw [t0, aN 3 (by omega)]; exact htop.1
        · rw [t0, aN 4 (by omega)]; exact htop.2.1
        · rw [aN 3 (by omega)]; exact htop.2.2.1
        · rw [aN 4 (by omega)]; exact htop.2.2.2.1
        · rw [t1]
          by_cases hss : s = st
          · subst hss
            rw [upd_eq, aS]
            exact ⟨rfl, z, rfl, y2⟩
          · rw [upd_ne hss, aN s hss]
            exact htop.2.2.2.2 s hs
        · obtain ⟨⟨a1, a2, a3, a4, a5, a6⟩, b1, b2, b3, s', w', h', z', g1, g2, g3, g4, g5, g6, g7⟩ := hper k hk'
          have hh : heldS (M1 1) k nu = heldS (M 1) k nu := heldS_c (aN _ (by omega)) (fun u hu => aN _ (by omega))
          rw [tj 7 (by decide), tj 8 (by decide), tj 9 (by decide), tj 10 (by decide), tj 11 (by decide), tj 12 (by decide), hh, aN (39 + 4 * k + 0) (by omega), aN (39 + 4 * k + 1) (by omega), aN (39 + 4 * k + 2) (by omega), aN (39 + 4 * k + 3) (by omega), aN (135 + k) (by omega)]
          by_cases hss : s' = st
          · subst hss
            have hp := x1 k (Nat.zero_le k) hk'
            unfold PS at hp
            rw [g3, g4, nv_nI (by omega), nv_nI (by omega)] at hp
            exact ⟨⟨a1, a2, a3, a4, a5, a6⟩, b1, b2, b3, s', w', h', z, g1, g2, g3, g4, aS, y2, Classical.byContradiction (fun q => hp ⟨g2, q⟩)⟩
          · exact ⟨⟨a1, a2, a3, a4, a5, a6⟩, b1, b2, b3, s', w', h', z', g1, g2, g3, g4, by rw [aN s' hss]; exact g5, g6, g7⟩
        · rw [tj 6 (by decide), tj 3 (by decide), t0]; exact hcrw d hd
      obtain ⟨nr', T', M', q1, q2, q3, q4, q5⟩ := stage_loop (st := st) nf 3000 3000 0 nr (u1 T 1 (upd (T 1) st (nI z))) M1 (by omega) (by omega) (by omega) hS1
      have q1 : F_X6_serveStage 3000 (u1 T 1 (upd (T 1) st (nI z))) (nI st) = some T' := q1
      rw [q1, Option.bind_some] at x2
      exact ⟨_, _, x2, w2.trans q2, op_ok (by decide) (near_trans n1 q3) (zI_pos (by omega)) (by rw [q4]; exact h06) ⟨np, nf, nu, nr', q5⟩⟩
    · exact absurd w2 (x1 j (Nat.zero_le j) w1)
  · rcases hrf with ⟨w1, w2⟩ | ⟨j, _, w1, w2, w3, w4⟩
    · exact absurd x2 (w1 i (Nat.zero_le i) x1)
    · have hij : i = j := least_eq (m := nf) (fun _ _ => Iff.rfl) x1 w1 x2 (fun x hx => x3 x (Nat.zero_le x) hx) w2 (fun x hx => w3 x (Nat.zero_le x) hx)
      subst hij
      exact ⟨_, _, hcl0.trans x4, hrf0.trans w4, op_ref (by decide) (near_refl M) (by omega) (by omega) (by omega)⟩
