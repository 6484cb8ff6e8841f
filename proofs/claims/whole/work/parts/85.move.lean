/-! move -/
theorem jo_move : jO_move RSea := by
  intro T M hr v1 v2
  obtain ⟨np, nf, nu, nr, hS⟩ := rs_M.mp hr
  have hS' := hS
  obtain ⟨⟨c1, c2, c3, c4, d1, d2, d3, d4, d5, d6, d7, d8⟩, htop, hpro, hper, hapt, hsub, hreq, hcrw⟩ := hS'
  rcases zI_idx (n := nf) (by omega) v1 with hz | ⟨ho, q, hq, rfl⟩
  · refine ⟨(-1, T), (1, M), ?_, ?_, op_no (by decide) (Or.inl ⟨rfl, rfl⟩)⟩
    · unfold F_X6_movePerformance; rw [z_has2, Option.bind_some, d3, if_pos hz]
    · unfold F_X9_moves; rw [z_isPerformance, Option.bind_some, d4, if_pos hz]
  have hne : ¬ jIn (nI q) 0 (nI nf - 1) = 0 := by rw [ho]; decide
  by_cases hv2 : jIn v2 0 29 = 0
  · refine ⟨(-2, T), (2, M), ?_, ?_, op_no (by decide) (Or.inr (Or.inl ⟨rfl, rfl⟩))⟩
    · unfold F_X6_movePerformance; rw [z_has2, Option.bind_some, d3, if_neg hne, if_pos hv2]
    · unfold F_X9_moves; rw [z_isPerformance, Option.bind_some, d4, if_neg hne, z_isDate, Option.bind_some, if_pos hv2]
  obtain ⟨d, rfl, -, hd⟩ := zI_btw (a := 0) (b := 29) (by decide) (by decide) (Decidable.not_not.mp (fun q => hv2 (jIn_0.mpr q)))
  have hper' := hper
  obtain ⟨⟨a1, a2, a3, a4, a5, a6⟩, ⟨P, hP, p2⟩, ⟨d0, hd0, q2⟩, -, Sg, w, h, z, hSg, s2, -⟩ := hper' q hq
  have t7 : T 7 q = nI P := a1.trans p2
  have t8 : T 8 q = nI Sg := a2.trans s2
  have t9 : T 9 q = nI d0 := a3.trans q2
  have i2 : ((39 : Int32) + ((4 : Int32) * nI q)) + 2 = nI (39 + 4 * q + 2) := z_at 39 4 q 2
  have hrow : stA (stF M 6 (nI d0)) 1 (nI (39 + 4 * q + 2)) (nI d) 1 = upd (M 1) (39 + 4 * q + 2) (nI d) := by rw [stA_1 (by omega), stF_1]
  have hnear : Near M (stA (stF M 6 (nI d0)) 1 (nI (39 + 4 * q + 2)) (nI d)) := near_trans (near_stF (Or.inl rfl)) (near_stA (by omega))
  have h06 : stA (stF M 6 (nI d0)) 1 (nI (39 + 4 * q + 2)) (nI d) 0 6 = nI d0 := by rw [stA_ne (by decide), stF_eq]
  have hg : F_X9_moves 3000 M (nI q) (nI d) = (F_X9_hinders 3000 (stA (stF M 6 (nI d0)) 1 (nI (39 + 4 * q + 2)) (nI d)) (nI q)).bind (fun r7 => if r7.1 = 0 then ((F_X9_isHindered 3000 r7.2 0).bind (fun r8 => if r8.1 = 0 then some ((0 : Int32), r8.2) else some ((4 : Int32), r8.2))) else ((F_X9_isHindered 3000 r7.2 1).bind (fun r10 => if r10.1 = 0 then some ((0 : Int32), r10.2) else some ((4 : Int32), r10.2)))) := by
    unfold F_X9_moves
    rw [z_isPerformance, Option.bind_some, d4, if_neg hne, z_isDate, Option.bind_some, if_neg hv2, z_p (v2 := 2) q 2 rfl rfl (by omega) (by omega), Option.bind_some, q2, i2]
    simp only [jlet]
    rw [if_pos (zI_inb (by omega) (by omega))]
  generalize stA (stF M 6 (nI d0)) 1 (nI (39 + 4 * q + 2)) (nI d) = M' at hrow hnear h06 hg
  have hN : ∀ k, k ≠ 39 + 4 * q + 2 → M' 1 k = M 1 k := fun k h1 => by rw [hrow, upd_ne h1]
  have m2 : M' 1 (39 + 4 * q + 2) = nI d := by rw [hrow, upd_eq]
  obtain ⟨dw, w1, w2⟩ := dw_some (N := 3000) hS hP (show d < 30 by omega) hq p2 hd0 q2
  have hcl : ∀ r, F_X6_placingRefusal 3000 T (nI q) (nI P) (nI Sg) (nI d) = some r → F_X6_movePerformance 3000 T (nI q) (nI d) = if r = 0 then some (nI d0, u1 (u1 T 6 (upd (T 6) P dw)) 9 (upd (T 9) q (nI d))) else some (r, T) := by
    intro r hr
    unfold F_X6_movePerformance
    rw [z_has2, Option.bind_some, d3, if_neg hne, if_neg hv2, zI_rg (by omega) (by omega), zI_rg (by omega) (by omega), t7, t8, hr, Option.bind_some, w1, Option.bind_some]
    simp only [jlet]
    rw [zI_rs (by omega) (by omega), zI_rs (by omega) (by omega), zI_rg (by omega) (by omega), t9]
    rfl
  rcases z_place (N := 3000) (nf' := nf) (q := q) (by omega) hS hP hSg (show d < 30 by omega) c2 hq ((hN 38 (by omega)).trans d4) (fun k hk => hN k (by omega)) ⟨(hN _ (by omega)).trans p2, (hN _ (by omega)).trans s2, m2⟩
    (fun k hk hkq => ⟨hk, fun e => hkq ((zI_eq (by omega) (by omega)).mp e), hN _ (by omega), hN _ (by omega), hN _ (by omega)⟩)
    (fun k hk hkm => ⟨hk, fun e => hkm (by rw [e])⟩) (fun k hk hkm => by
      have e := (zI_eq (by omega) (by omega)).mp hkm
      rw [e]; exact p2) w1 w2 with ⟨a, e, g1, g2, g3, g4, g5⟩ | ⟨b1, b2, b3, b4, b5⟩
  · refine ⟨(jRef (nI a) (nI e), T), (4, stF (stF (stF (stF (stF M' 7 0) 7 (nI a)) 8 (nI e)) 4 (nI a)) 5 (nI e)), ?_, ?_, op_ref (by decide) (near_trans hnear (near_trans (near_stF (Or.inr (Or.inl rfl))) (near_trans (near_stF (Or.inr (Or.inl rfl))) (near_stF (Or.inr (Or.inr rfl)))))) g1 (by omega) g3⟩
    · rw [hcl _ g4, if_neg (jRef_ne0 g1 (by omega) g3)]
    · rw [hg, g5, Option.bind_some, if_neg (show ¬ nI a = 0 from ine (b := 0) (by omega) (by omega) (by omega)), z_hinW, Option.bind_some, if_neg (show ¬ (1 : Int32) = 0 by decide)]
  · refine ⟨(nI d0, u1 (u1 T 6 (upd (T 6) P dw)) 9 (upd (T 9) q (nI d))), (0, stF M' 7 0), ?_, ?_, op_ok (by decide) (near_trans hnear (near_stF (Or.inr (Or.inl rfl)))) (zI_pos (by omega)) (by rw [stF_o (by decide)]; exact h06) ?_⟩
    · rw [hcl _ b1, if_pos rfl]
    · rw [hg, b2, Option.bind_some, if_pos rfl, z_hin0, Option.bind_some, if_pos rfl]
    · rw [stF_1]
      have g6 : u1 (u1 T 6 (upd (T 6) P dw)) 9 (upd (T 9) q (nI d)) 6 = upd (T 6) P dw := rfl
      have g9 : u1 (u1 T 6 (upd (T 6) P dw)) 9 (upd (T 9) q (nI d)) 9 = upd (T 9) q (nI d) := rfl
      have gr : ∀ r, r ≠ 6 → r ≠ 9 → u1 (u1 T 6 (upd (T 6) P dw)) 9 (upd (T 9) q (nI d)) r = T r := fun r h6 h9 => by rw [u1_ne h9, u1_ne h6]
      generalize u1 (u1 T 6 (upd (T 6) P dw)) 9 (upd (T 9) q (nI d)) = T' at g6 g9 gr
      have r0 : T' 0 = T 0 := gr 0 (by decide) (by decide)
      refine ⟨np, nf, nu, nr, ⟨c1, c2, c3, c4, by rw [r0]; exact d1, (hN 5 (by omega)).trans d2, by rw [r0]; exact d3, (hN 38 (by omega)).trans d4, by rw [r0]; exact d5, (hN 159 (by omega)).trans d6, by rw [r0]; exact d7, (hN 180 (by omega)).trans d8⟩, RTop_c (by rw [r0]) (by rw [r0]) (gr 1 (by decide) (by decide)) (fun k hk => hN k (by omega)) htop, fun p hp => ?_, fun k hk => ?_, fun i j hi hj hij he => ?_, RSub_c (fun _ _ => by rw [gr 13 (by decide) (by decide)]) (fun _ _ => by rw [gr 14 (by decide) (by decide)]) (fun u hu => ⟨hN _ (by omega), hN _ (by omega)⟩) hsub, RReq_c c4 (gr 15 (by decide) (by decide)) (gr 16 (by decide) (by decide)) (gr 17 (by decide) (by decide)) (fun k h1 h2 => hN k (by omega)) hreq, fun e he => ?_⟩
      · obtain ⟨⟨a1, a2, a3, a4⟩, ⟨q1, q2, q3, q4⟩, -⟩ := hpro p hp
        obtain ⟨m, f1, f2, f3⟩ := b3.1 p hp
        rw [gr 2 (by decide) (by decide), gr 3 (by decide) (by decide), gr 4 (by decide) (by decide), gr 5 (by decide) (by decide), g6, hN (6 + 4 * p + 0) (by omega), hN (6 + 4 * p + 1) (by omega), hN (6 + 4 * p + 2) (by omega), hN (6 + 4 * p + 3) (by omega)]
        exact ⟨⟨a1, a2, a3, a4⟩, ⟨q1, q2, q3, q4⟩, m, (DW_upd (by omega) (by omega)).trans f1, f2, f3⟩
      · obtain ⟨⟨a1, a2, a3, a4, a5, a6⟩, q1, q2, q3, s', w', h', z', f1, f2, f3, f4, f5, f6, f7⟩ := hper k hk
        have hh : heldS (M' 1) k nu = heldS (M 1) k nu := heldS_c (hN _ (by omega)) (fun u hu => hN _ (by omega))
        rw [gr 7 (by decide) (by decide), gr 8 (by decide) (by decide), g9, gr 10 (by decide) (by decide), gr 11 (by decide) (by decide), gr 12 (by decide) (by decide), hh, hN (39 + 4 * k + 0) (by omega), hN (39 + 4 * k + 1) (by omega), hN (39 + 4 * k + 3) (by omega), hN (135 + k) (by omega)]
        by_cases hkq : k = q
        · subst hkq
          rw [m2, upd_eq]
          exact ⟨⟨a1, a2, rfl, a4, a5, a6⟩, q1, ⟨d, by omega, rfl⟩, q3, s', w', h', z', f1, f2, f3, f4, by rw [hN s' (by omega)]; exact f5, f6, f7⟩
        · rw [hN (39 + 4 * k + 2) (by omega), upd_ne hkq]
          exact ⟨⟨a1, a2, a3, a4, a5, a6⟩, q1, q2, q3, s', w', h', z', f1, f2, f3, f4, by rw [hN s' (by omega)]; exact f5, f6, f7⟩
      · by_cases hin : i = q
        · subst hin
          rw [m2] at he
          obtain ⟨f1, f2⟩ := b4 j hj (fun e => hij e.symm) he.symm
          rw [hN (39 + 4 * i + 1) (by omega), hN (39 + 4 * i + 0) (by omega), s2, p2]
          exact ⟨fun e => f1 e.symm, fun e => f2 e.symm⟩
        · by_cases hjn : j = q
          · subst hjn
            rw [m2] at he
            rw [hN (39 + 4 * j + 1) (by omega), hN (39 + 4 * j + 0) (by omega), s2, p2]
            exact b4 i hi hin he
          · rw [hN (39 + 4 * i + 2) (by omega), hN (39 + 4 * j + 2) (by omega)] at he
            rw [hN (39 + 4 * i + 1) (by omega), hN (39 + 4 * j + 1) (by omega), hN (39 + 4 * i + 0) (by omega), hN (39 + 4 * j + 0) (by omega)]
            exact hapt i j hi hj hij he
      · rw [g6, gr 3 (by decide) (by decide), r0, crewN_c (fun p hp => DW_upd (T := T) (dw := dw) (P := P) (show P < 8 by omega) (show p < 8 by omega))]
        exact b5 e he
