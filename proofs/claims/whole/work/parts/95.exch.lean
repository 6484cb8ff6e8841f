/-! release and exchange -/
theorem hb_nu {T : RM} {A : Nat → Int32} {np nf nu nr k b : Nat} (hS : RS4 T A np nf nu nr) (hk : k < nf) (hb : A (135 + k) = nI b) (hb3 : b < 2 ^ 10) : b < 2 ^ nu := by
  obtain ⟨-, -, -, ⟨b', q1, q2⟩, -⟩ := hS.2.2.2.1 k hk
  have c3 := hS.1.2.2.1
  have e := (zI_eq (a := b) (b := b') (by omega) (Nat.lt_of_lt_of_le q2 (Nat.le_trans (Nat.pow_le_pow_right (by decide) c3) (by decide)))).mp (hb.symm.trans q1)
  rw [e]; exact q2
theorem hz_of {T : RM} {A : Nat → Int32} {np nf nu nr : Nat} (hS : RS4 T A np nf nu nr) : ∀ u, u < nu → ∃ z, A (160 + 2 * u) = nI z ∧ z ≤ 6 := fun u hu => by
  obtain ⟨-, -, ⟨x, y1, -, y3⟩, -⟩ := hS.2.2.2.2.2.1 u hu
  exact ⟨x, y1, y3⟩
theorem jo_release : jO_release RSea := by
  intro T M hr v1 v2
  obtain ⟨np, nf, nu, nr, hS⟩ := rs_M.mp hr
  have hS' := hS
  obtain ⟨⟨c1, c2, c3, c4, d1, d2, d3, d4, d5, d6, d7, d8⟩, htop, hpro, hper, hapt, hsub, hreq, hcrw⟩ := hS'
  rcases zI_idx (n := nu) (by omega) v1 with hz | ⟨ho, u, hu, rfl⟩
  · refine ⟨(-1, T), (1, M), ?_, ?_, op_no (by decide) (Or.inl ⟨rfl, rfl⟩)⟩
    · unfold F_X6_releaseSeats; rw [z_has7, Option.bind_some, d5, if_pos hz]
    · unfold F_X9_releases; rw [z_isSubscription, Option.bind_some, d6, if_pos hz]
  have hne : ¬ jIn (nI u) 0 (nI nu - 1) = 0 := by rw [ho]; decide
  rcases zI_idx (n := nf) (by omega) v2 with hz | ⟨ho2, k, hk, rfl⟩
  · refine ⟨(-1, T), (1, M), ?_, ?_, op_no (by decide) (Or.inl ⟨rfl, rfl⟩)⟩
    · unfold F_X6_releaseSeats; rw [z_has7, Option.bind_some, d5, if_neg hne, z_has2, Option.bind_some, d3, if_pos hz]
    · unfold F_X9_releases; rw [z_isSubscription, Option.bind_some, d6, if_neg hne, z_isPerformance, Option.bind_some, d4, if_pos hz]
  have hne2 : ¬ jIn (nI k) 0 (nI nf - 1) = 0 := by rw [ho2]; decide
  obtain ⟨s, w, h, z, f1, f2, f3, f4, f5, f6, f7, f8, f9, f10, f11, f12, f13, f14, f15⟩ := z_free1 (N := 3000) (by omega) hS hk
  obtain ⟨b, b1, b2, b3⟩ := hok_of hS k hk
  obtain ⟨s1, s2, ⟨x, x1, x2, x3⟩, -⟩ := hsub u hu
  have t13 : T 13 u = nI x := s1.trans x1
  have hhold : F_X9_holds 3000 M (nI u) (nI k) = some (if b.testBit u = true then 1 else 0) := r_holds (by omega) (by omega) b2
  by_cases hbit : b.testBit u = true
  · have i135 : (135 : Int32) + nI k = nI (135 + k) := zI_add 135 k
    have row : stA M 1 (nI (135 + k)) (nI (clr b u)) 1 = upd (M 1) (135 + k) (nI (clr b u)) := stA_1 (by omega)
    have n1 : Near M (stA M 1 (nI (135 + k)) (nI (clr b u))) := near_stA (by omega)
    have hrf : F_X9_releases 3000 M (nI u) (nI k) = (F_X9_serves 3000 (stA M 1 (nI (135 + k)) (nI (clr b u))) (nI k)).bind (fun r5 => (F_X9_holdsAt 3000 r5 (nI u)).bind (fun r6 => some ((0 : Int32), stF r5 6 r6))) := by
      unfold F_X9_releases
      rw [z_isSubscription, Option.bind_some, d6, if_neg hne, z_isPerformance, Option.bind_some, d4, if_neg hne2, hhold, Option.bind_some, if_pos hbit, if_neg (by decide)]
      unfold D_X9_releases_33
      rw [z_ref0, Option.bind_some, if_pos rfl, i135, if_pos (zI_inb (by omega) (by omega)), if_pos (zI_inb (by omega) (by omega))]
      simp only [jlet]
      rw [zI_nat (by omega), b2, nI_clr b (by omega)]
    generalize stA M 1 (nI (135 + k)) (nI (clr b u)) = M1 at hrf row n1
    have aN : ∀ c, c ≠ 135 + k → M1 1 c = M 1 c := fun c hc => by rw [row, upd_ne hc]
    have aS : M1 1 (135 + k) = nI (clr b u) := by rw [row, upd_eq]
    obtain ⟨hxh, hheld⟩ := held_sub c3 hu b2 aS (hz_of hS) (fun u hu => aN _ (by omega)) x1 x3 (fun i hi hne => by rw [clr_bit, decide_eq_false (fun e => hne e.symm), Bool.not_false, Bool.and_true]) hbit (by rw [clr_bit, decide_eq_true rfl, Bool.not_true, Bool.and_false]) f10 (by omega)
    have hS1 : RS4 (u1 (u1 T 12 (upd (T 12) k (nI (clr b u)))) 11 (upd (T 11) k (nI (h - x)))) (M1 1) np nf nu nr := RS4_held hS hk (fun r r11 r12 => by rw [u1_ne r11, u1_ne r12]) rfl rfl aN aS (clr_lt (hb_nu hS hk b2 b3)) hheld ⟨s, w, z, f1, f9, f8, f11, f2, by omega⟩
    have hcl : F_X6_releaseSeats 3000 T (nI u) (nI k) = (F_X6_serveRequests 3000 (u1 (u1 T 12 (upd (T 12) k (nI (clr b u)))) 11 (upd (T 11) k (nI (h - x)))) (nI k)).bind (fun r7 => (F_X2_heldFor 3000 r7 (nI u)).bind (fun r8 => some (bcnt r8, r7))) := by
      unfold F_X6_releaseSeats
      rw [z_has7, Option.bind_some, d5, if_neg hne, z_has2, Option.bind_some, d3, if_neg hne2, c_isHeld (by omega) (by omega) b1, Option.bind_some, if_pos hbit, if_neg (by decide), zI_rg (by omega) (by omega), t13, c_end (by omega) (by omega) b1 f6 hxh, Option.bind_some, mg2_id (fun r r11 r12 => by rw [u1_ne r11, u1_ne r12])]
      simp only [jlet]
    obtain ⟨nr', T', M', r1, r2, r3, r4, r5, r6, r7⟩ := z_serve hk hS1
    have hok1 := hok_of r5
    rw [r1, Option.bind_some, c_heldFor (N := 3000) (by omega) c2 (by omega) (RS4_d3 r5) hok1, Option.bind_some, hs_pop c2 hok1] at hcl
    rw [r2, Option.bind_some, r_holdsAt (by omega) c2 (by omega) (RS4_d4 r5) hok1, Option.bind_some] at hrf
    exact ⟨_, _, hcl, hrf, op_ok (by decide) (near_trans n1 (near_trans r3 (near_stF (Or.inl rfl)))) (zI_pos (by have := hcN_le (M' 1) u nf; omega)) stF_eq ⟨np, nf, nu, nr', by rw [stF_1]; exact r5⟩⟩
  · refine ⟨(jRef (nI 5) (nI k), T), (4, stF (stF M 4 (nI 5)) 5 (nI k)), ?_, ?_, op_ref (by decide) (near_refl M) (by omega) (by omega) (by omega)⟩
    · unfold F_X6_releaseSeats
      rw [z_has7, Option.bind_some, d5, if_neg hne, z_has2, Option.bind_some, d3, if_neg hne2, c_isHeld (by omega) (by omega) b1, Option.bind_some, if_neg hbit, if_pos rfl]
      rfl
    · unfold F_X9_releases
      rw [z_isSubscription, Option.bind_some, d6, if_neg hne, z_isPerformance, Option.bind_some, d4, if_neg hne2, hhold, Option.bind_some, if_neg hbit, if_pos rfl]
      unfold D_X9_releases_33
      rw [z_ref1, Option.bind_some, if_neg (show ¬ (1 : Int32) = 0 by decide)]
      rfl
/-- other exchanges of a subscription -/
theorem RS4_ex {T T' : RM} {A A' : Nat → Int32} {np nf nu nr u y' : Nat} (hS : RS4 T A np nf nu nr) (hu : u < nu) (tj : ∀ r, r ≠ 14 → T' r = T r) (t14 : T' 14 = upd (T 14) u (nI y')) (aN : ∀ c, c ≠ 160 + 2 * u + 1 → A' c = A c) (aS : A' (160 + 2 * u + 1) = nI y') (hy : y' ≤ 2) : RS4 T' A' np nf nu nr := by
  obtain ⟨⟨c1, c2, c3, c4, d1, d2, d3, d4, d5, d6, d7, d8⟩, htop, hpro, hper, hapt, hsub, hreq, hcrw⟩ := hS
  have t0 : T' 0 = T 0 := tj 0 (by decide)
  refine ⟨⟨c1, c2, c3, c4, by rw [t0]; exact d1, (aN 5 (by omega)).trans d2, by rw [t0]; exact d3, (aN 38 (by omega)).trans d4, by rw [t0]; exact d5, (aN 159 (by omega)).trans d6, by rw [t0]; exact d7, (aN 180 (by omega)).trans d8⟩, RTop_c (by rw [t0]) (by rw [t0]) (tj 1 (by decide)) (fun x hx => aN x (by omega)) htop,
    RPro_c c1 c2 (tj 2 (by decide)) (tj 3 (by decide)) (tj 4 (by decide)) (tj 5 (by decide)) (tj 6 (by decide)) (fun x h1 h2 => aN x (by omega)) (fun x h1 h2 => aN x (by omega)) hpro, RPer_c c2 (Nat.le_refl nu) (tj 7 (by decide)) (tj 8 (by decide)) (tj 9 (by decide)) (tj 10 (by decide)) (tj 11 (by decide)) (tj 12 (by decide)) (fun x hx => aN x (by omega)) (fun x h1 h2 => aN x (by omega)) (fun i hi => heldS_c (aN _ (by omega)) (fun u hu => aN _ (by omega))) hper, RApt_c c2 (fun x h1 h2 => aN x (by omega)) hapt,
    fun i hi => ?_, RReq_c c4 (tj 15 (by decide)) (tj 16 (by decide)) (tj 17 (by decide)) (fun x h1 h2 => aN x (by omega)) hreq, fun d hd => ?_⟩
  · obtain ⟨s1, s2, s3, s4⟩ := hsub i hi
    rw [tj 13 (by decide), t14, aN (160 + 2 * i + 0) (by omega)]
    by_cases hiu : i = u
    · subst hiu
      rw [aS, upd_eq]
      exact ⟨s1, rfl, s3, y', rfl, hy⟩
    · rw [aN (160 + 2 * i + 1) (by omega), upd_ne hiu]
      exact ⟨s1, s2, s3, s4⟩
  · rw [tj 6 (by decide), tj 3 (by decide), t0]
    exact hcrw d hd
theorem jo_exchange : jO_exchange RSea := by
  intro T M hr v1 v2 v3
  obtain ⟨np, nf, nu, nr, hS⟩ := rs_M.mp hr
  have hS' := hS
  obtain ⟨⟨c1, c2, c3, c4, d1, d2, d3, d4, d5, d6, d7, d8⟩, htop, hpro, hper, hapt, hsub, hreq, hcrw⟩ := hS'
  rcases zI_idx (n := nu) (by omega) v1 with hz | ⟨ho, u, hu, rfl⟩
  · refine ⟨(-1, T), (1, M), ?_, ?_, op_no (by decide) (Or.inl ⟨rfl, rfl⟩)⟩
    · unfold F_X6_exchangeSeats; rw [z_has7, Option.bind_some, d5, if_pos hz]
    · unfold F_X9_exchanges; rw [z_isSubscription, Option.bind_some, d6, if_pos hz]
  have hne : ¬ jIn (nI u) 0 (nI nu - 1) = 0 := by rw [ho]; decide
  rcases zI_idx (n := nf) (by omega) v2 with hz | ⟨ho2, k, hk, rfl⟩
  · refine ⟨(-1, T), (1, M), ?_, ?_, op_no (by decide) (Or.inl ⟨rfl, rfl⟩)⟩
    · unfold F_X6_exchangeSeats; rw [z_has7, Option.bind_some, d5, if_neg hne, z_has2, Option.bind_some, d3, if_pos hz]
    · unfold F_X9_exchanges; rw [z_isSubscription, Option.bind_some, d6, if_neg hne, z_isPerformance, Option.bind_some, d4, if_pos hz]
  have hne2 : ¬ jIn (nI k) 0 (nI nf - 1) = 0 := by rw [ho2]; decide
  rcases zI_idx (n := nf) (by omega) v3 with hz | ⟨ho3, k', hk', rfl⟩
  · refine ⟨(-1, T), (1, M), ?_, ?_, op_no (by decide) (Or.inl ⟨rfl, rfl⟩)⟩
    · unfold F_X6_exchangeSeats; rw [z_has7, Option.bind_some, d5, if_neg hne, z_has2, Option.bind_some, d3, if_neg hne2, z_has2, Option.bind_some, d3, if_pos hz]
    · unfold F_X9_exchanges; rw [z_isSubscription, Option.bind_some, d6, if_neg hne, z_isPerformance, Option.bind_some, d4, if_neg hne2, z_isPerformance, Option.bind_some, d4, if_pos hz]
  have hne3 : ¬ jIn (nI k') 0 (nI nf - 1) = 0 := by rw [ho3]; decide
  obtain ⟨s, w, h, z, f1, f2, f3, f4, f5, f6, f7, f8, f9, f10, f11, f12, f13, f14, f15⟩ := z_free1 (N := 3000) (by omega) hS hk
  obtain ⟨s', w', h', z', g1, g2, g3, g4, g5, g6, g7, g8, g9, g10, g11, g12, g13, g14, g15⟩ := z_free1 (N := 3000) (by omega) hS hk'
  obtain ⟨b, b1, b2, b3⟩ := hok_of hS k hk
  obtain ⟨b', b1', b2', b3'⟩ := hok_of hS k' hk'
  obtain ⟨s1, s2, ⟨x, x1, x2, x3⟩, ⟨y, y1, y2⟩⟩ := hsub u hu
  have t13 : T 13 u = nI x := s1.trans x1
  have t14 : T 14 u = nI y := s2.trans y1
  have hcl0 : F_X6_exchangeSeats 3000 T (nI u) (nI k) (nI k') = (F_X6_exchangeRefusal 3000 T (nI u) (nI k) (nI k')).bind (fun r4 => (if r4 = 0 then ((F_X2_endHolding 3000 T (nI u) (nI k) (nI x)).bind (fun r6 => (jlet (mgX2 T r6) (fun M7 => ((F_X2_beginHolding 3000 M7 (nI u) (nI k') (nI x)).bind (fun r8 => (jlet (mgX2 M7 r8) (fun M9 => (jlet (u1 M9 14 (rs 10 (M9 14) (nI u) (rg 10 (M9 14) (nI u) + (1 : Int32)))) (fun M11 => ((F_X6_serveRequests 3000 M11 (nI k)).bind (fun r12 => (some ((rg 10 (r12 14) (nI u)), r12)))))))))))))) else (some (r4, T)))) := by
    unfold F_X6_exchangeSeats
    rw [z_has7, Option.bind_some, d5, if_neg hne, z_has2, Option.bind_some, d3, if_neg hne2, z_has2, Option.bind_some, d3, if_neg hne3, zI_rg (by omega) (by omega), t13]
  have hrf0 : F_X9_exchanges 3000 M (nI u) (nI k) (nI k') = if (if b.testBit u = true then (1 : Int32) else 0) = 0 then (D_X9_exchanges_41 3000 M (nI u) (nI k) (nI k') 1) else (D_X9_exchanges_41 3000 M (nI u) (nI k) (nI k') 0) := by
    unfold F_X9_exchanges
    rw [z_isSubscription, Option.bind_some, d6, if_neg hne, z_isPerformance, Option.bind_some, d4, if_neg hne2, z_isPerformance, Option.bind_some, d4, if_neg hne3, r_holds (by omega) (by omega) b2, Option.bind_some]
  have hre : F_X6_exchangeRefusal 3000 T (nI u) (nI k) (nI k') = (if (if b.testBit u = true then (1 : Int32) else 0) = 0 then (some (jRef (5 : Int32) (nI k))) else (if (if b'.testBit u = true then (1 : Int32) else 0) = 0 then (if nI y < (2 : Int32) then (if nI x ≤ nI (z' - (w' + h')) then (some (0 : Int32)) else (some (jRef (4 : Int32) (nI (z' - (w' + h')))))) else (some (jRef (6 : Int32) (2 : Int32)))) else (some (jRef (5 : Int32) (nI k'))))) := by
    unfold F_X6_exchangeRefusal
    rw [c_isHeld (by omega) (by omega) b1, Option.bind_some, c_isHeld (by omega) (by omega) b1', Option.bind_some, zI_rg (by omega) (by omega), zI_rg (by omega) (by omega), t13, t14, g15, Option.bind_some]
  have hhold' : F_X9_holds 3000 M (nI u) (nI k') = some (if b'.testBit u = true then 1 else 0) := r_holds (by omega) (by omega) b2'
  -- a refusal
  have refd : ∀ a d : Nat, 1 ≤ a → a ≤ 9 → d < 1000 → F_X6_exchangeRefusal 3000 T (nI u) (nI k) (nI k') = some (jRef (nI a) (nI d)) → F_X9_exchanges 3000 M (nI u) (nI k) (nI k') = some (4, stF (stF M 4 (nI a)) 5 (nI d)) → ∃ rc rm, F_X6_exchangeSeats 3000 T (nI u) (nI k) (nI k') = some rc ∧ F_X9_exchanges 3000 M (nI u) (nI k) (nI k') = some rm ∧ OpR RSea [0, 1, 4] T M rc rm := by
    intro a d ha ha9 hd h1 h2
    refine ⟨(jRef (nI a) (nI d), T), _, ?_, h2, op_ref (by decide) (near_refl M) ha ha9 hd⟩
    rw [hcl0, h1, Option.bind_some, if_neg (jRef_ne0 ha ha9 hd)]
  by_cases hbit : b.testBit u = true
  · rw [if_pos hbit, if_neg (by decide)] at hrf0 hre
    unfold D_X9_exchanges_41 at hrf0
    rw [z_ref0, Option.bind_some, if_pos rfl, hhold', Option.bind_some] at hrf0
    by_cases hbit' : b'.testBit u = true
    · rw [if_pos hbit', if_neg (by decide)] at hre
      rw [if_pos hbit', z_ref1, Option.bind_some, if_neg (show ¬ (1 : Int32) = 0 by decide)] at hrf0
      exact refd 5 k' (by omega) (by omega) (by omega) hre hrf0
    · have hbf' : b'.testBit u = false := by simpa using hbit'
      rw [if_neg hbit', if_pos rfl] at hre
      rw [if_neg hbit', z_ref0, Option.bind_some, if_pos rfl, z_u (v2 := 1) u 1 rfl rfl (by omega) (by omega), Option.bind_some] at hrf0
      by_cases hy : y = 2
      · rw [hy, if_neg (by decide)] at hre
        rw [if_pos (show M 1 (160 + 2 * u + 1) = 2 by rw [y1, hy]; rfl)] at hrf0
        unfold D_X9_exchanges_82 at hrf0
        rw [z_ref1, Option.bind_some, if_neg (show ¬ (1 : Int32) = 0 by decide)] at hrf0
        exact refd 6 2 (by omega) (by omega) (by omega) hre hrf0
      · rw [if_pos (show nI y < 2 from (zI_lt (b := 2) (by omega) (by omega)).mpr (by omega))] at hre
        rw [if_neg (show ¬ M 1 (160 + 2 * u + 1) = 2 by rw [y1]; exact ine (b := 2) hy (by omega) (by omega))] at hrf0
        unfold D_X9_exchanges_82 at hrf0
        rw [z_ref0, Option.bind_some, if_pos rfl, g13, Option.bind_some, z_u (v2 := 0) u 0 rfl rfl (by omega) (by omega), Option.bind_some] at hrf0
        by_cases hf : x ≤ z' - (w' + h')
        · rw [if_pos (ile_t hf (by omega))] at hre
          rw [if_pos (show M 1 (160 + 2 * u + 0) ≤ nI (z' - (w' + h')) by rw [x1]; exact ile_t hf (by omega))] at hrf0
          have hkk : k ≠ k' := fun e => by
            subst e
            have := (zI_eq (by omega) (by omega)).mp (b2.symm.trans b2')
            rw [this, hbf'] at hbit
            cases hbit
          have i135 : (135 : Int32) + nI k = nI (135 + k) := zI_add 135 k
          have i135' : (135 : Int32) + nI k' = nI (135 + k') := zI_add 135 k'
          have i160 : ((160 : Int32) + ((2 : Int32) * nI u)) + 1 = nI (160 + 2 * u + 1) := z_at 160 2 u 1
          unfold D_X9_exchanges_117 at hrf0
          rw [z_ref0, Option.bind_some, if_pos rfl, i135, i135', i160, if_pos (zI_inb (n := 135 + k) (by omega) (by omega)), if_pos (zI_inb (n := 135 + k) (by omega) (by omega))] at hrf0
          simp only [jlet] at hrf0
          rw [if_pos (zI_inb (n := 135 + k') (by omega) (by omega)), if_pos (zI_inb (n := 135 + k') (by omega) (by omega)), if_pos (zI_inb (n := 160 + 2 * u + 1) (by omega) (by omega)), if_pos (zI_inb (n := 160 + 2 * u + 1) (by omega) (by omega)), zI_nat (n := 135 + k) (by omega), zI_nat (n := 135 + k') (by omega), zI_nat (n := 160 + 2 * u + 1) (by omega), b2, nI_clr b (by omega), nI_shl u (by omega)] at hrf0
          have row1 : stA M 1 (nI (135 + k)) (nI (clr b u)) 1 = upd (M 1) (135 + k) (nI (clr b u)) := stA_1 (by omega)
          have n1 : Near M (stA M 1 (nI (135 + k)) (nI (clr b u))) := near_stA (by omega)
          generalize stA M 1 (nI (135 + k)) (nI (clr b u)) = M1 at hrf0 row1 n1
          have aN1 : ∀ c, c ≠ 135 + k → M1 1 c = M 1 c := fun c hc => by rw [row1, upd_ne hc]
          have aS1 : M1 1 (135 + k) = nI (clr b u) := by rw [row1, upd_eq]
          have m1k : M1 1 (135 + k') = nI b' := (aN1 _ (by omega)).trans b2'
          rw [m1k, nI_or] at hrf0
          have row2 : stA M1 1 (nI (135 + k')) (nI (b' ||| 2 ^ u)) 1 = upd (M1 1) (135 + k') (nI (b' ||| 2 ^ u)) := stA_1 (by omega)
          have n2 : Near M1 (stA M1 1 (nI (135 + k')) (nI (b' ||| 2 ^ u))) := near_stA (by omega)
          generalize stA M1 1 (nI (135 + k')) (nI (b' ||| 2 ^ u)) = M2 at hrf0 row2 n2
          have aN2 : ∀ c, c ≠ 135 + k' → M2 1 c = M1 1 c := fun c hc => by rw [row2, upd_ne hc]
          have aS2 : M2 1 (135 + k') = nI (b' ||| 2 ^ u) := by rw [row2, upd_eq]
          have m2u : M2 1 (160 + 2 * u + 1) = nI y := (aN2 _ (by omega)).trans ((aN1 _ (by omega)).trans y1)
          rw [m2u, zI_succ] at hrf0
          have row3 : stA M2 1 (nI (160 + 2 * u + 1)) (nI (y + 1)) 1 = upd (M2 1) (160 + 2 * u + 1) (nI (y + 1)) := stA_1 (by omega)
          have n3 : Near M2 (stA M2 1 (nI (160 + 2 * u + 1)) (nI (y + 1))) := near_stA (by omega)
          generalize stA M2 1 (nI (160 + 2 * u + 1)) (nI (y + 1)) = M3 at hrf0 row3 n3
          have aN3 : ∀ c, c ≠ 160 + 2 * u + 1 → M3 1 c = M2 1 c := fun c hc => by rw [row3, upd_ne hc]
          have aS3 : M3 1 (160 + 2 * u + 1) = nI (y + 1) := by rw [row3, upd_eq]
          -- away from the first
          obtain ⟨hxh, hheld1⟩ := held_sub c3 hu b2 aS1 (hz_of hS) (fun u hu => aN1 _ (by omega)) x1 x3 (fun i hi hne => by rw [clr_bit, decide_eq_false (fun e => hne e.symm), Bool.not_false, Bool.and_true]) hbit (by rw [clr_bit, decide_eq_true rfl, Bool.not_true, Bool.and_false]) f10 (by omega)
          have hS1 : RS4 (u1 (u1 T 12 (upd (T 12) k (nI (clr b u)))) 11 (upd (T 11) k (nI (h - x)))) (M1 1) np nf nu nr := RS4_held hS hk (fun r r11 r12 => by rw [u1_ne r11, u1_ne r12]) rfl rfl aN1 aS1 (clr_lt (hb_nu hS hk b2 b3)) hheld1 ⟨s, w, z, f1, f9, f8, f11, f2, by omega⟩
          have hend := c_end (N := 3000) (T := T) (u := u) (k := k) (z := x) (by omega) (by omega) b1 f6 hxh
          have q12 : u1 (u1 T 12 (upd (T 12) k (nI (clr b u)))) 11 (upd (T 11) k (nI (h - x))) 12 k' = nI b' := by
            rw [u1_ne (show (12 : Nat) ≠ 11 by decide), u1_eq, upd_ne (fun e => hkk e.symm)]; exact b1'
          have q11 : u1 (u1 T 12 (upd (T 12) k (nI (clr b u)))) 11 (upd (T 11) k (nI (h - x))) 11 k' = nI h' := by
            rw [u1_eq, upd_ne (fun e => hkk e.symm)]; exact g6
          have q14 : u1 (u1 T 12 (upd (T 12) k (nI (clr b u)))) 11 (upd (T 11) k (nI (h - x))) 14 = T 14 := rfl
          have hmg1 : mgX2 T (u1 (u1 T 12 (upd (T 12) k (nI (clr b u)))) 11 (upd (T 11) k (nI (h - x)))) = u1 (u1 T 12 (upd (T 12) k (nI (clr b u)))) 11 (upd (T 11) k (nI (h - x))) := mg2_id (fun r r11 r12 => by rw [u1_ne r11, u1_ne r12])
          rw [hre, Option.bind_some, if_pos rfl, hend, Option.bind_some, hmg1] at hcl0
          simp only [jlet] at hcl0
          generalize u1 (u1 T 12 (upd (T 12) k (nI (clr b u)))) 11 (upd (T 11) k (nI (h - x))) = T1 at hS1 q12 q11 q14 hcl0
          -- to the other
          have hheld' : heldS (M1 1) k' nu = nI h' := (heldS_c (aN1 _ (by omega)) (fun u hu => aN1 _ (by omega))).trans g10
          have hheld2 : heldS (M2 1) k' nu = nI (h' + x) := held_add c3 hu m1k aS2 (hz_of hS1) (fun u hu => aN2 _ (by omega)) ((aN1 _ (by omega)).trans x1) x3 (fun i hi hne => by rw [Nat.testBit_or, Nat.testBit_two_pow, decide_eq_false (fun e => hne e.symm), Bool.or_false]) hbf' (by rw [Nat.testBit_or, Nat.testBit_two_pow, decide_eq_true rfl, Bool.or_true]) hheld' (by omega)
          have hS2 : RS4 (u1 (u1 T1 12 (upd (T1 12) k' (nI (b' ||| 2 ^ u)))) 11 (upd (T1 11) k' (nI (h' + x)))) (M2 1) np nf nu nr := RS4_held hS1 hk' (fun r r11 r12 => by rw [u1_ne r11, u1_ne r12]) rfl rfl aN2 aS2 (or_lt (hb_nu hS hk' b2' b3') (two_lt hu)) hheld2 ⟨s', w', z', g1, (aN1 _ (by omega)).trans g9, (aN1 _ (by omega)).trans g8, (aN1 _ (by omega)).trans g11, g2, by omega⟩
          have hmg2 : mgX2 T1 (u1 (u1 T1 12 (upd (T1 12) k' (nI (b' ||| 2 ^ u)))) 11 (upd (T1 11) k' (nI (h' + x)))) = u1 (u1 T1 12 (upd (T1 12) k' (nI (b' ||| 2 ^ u)))) 11 (upd (T1 11) k' (nI (h' + x))) := mg2_id (fun r r11 r12 => by rw [u1_ne r11, u1_ne r12])
          have q14' : u1 (u1 T1 12 (upd (T1 12) k' (nI (b' ||| 2 ^ u)))) 11 (upd (T1 11) k' (nI (h' + x))) 14 = T 14 := by rw [u1_ne (by decide), u1_ne (by decide)]; exact q14
          rw [c_begin (N := 3000) (by omega) (by omega) q12 q11, Option.bind_some, hmg2] at hcl0
          generalize u1 (u1 T1 12 (upd (T1 12) k' (nI (b' ||| 2 ^ u)))) 11 (upd (T1 11) k' (nI (h' + x))) = T2 at hS2 q14' hcl0
          rw [q14', zI_rg (by omega) (by omega), t14, zI_succ, zI_rs (by omega) (by omega)] at hcl0
          have hS3 : RS4 (u1 T2 14 (upd (T 14) u (nI (y + 1)))) (M3 1) np nf nu nr := RS4_ex hS2 hu (fun r hr => u1_ne hr) (by rw [u1_eq, q14']) aN3 aS3 (by omega)
          obtain ⟨nr', T', M', r1, r2, r3, r4, r5, r6, r7⟩ := z_serve hk hS3
          have e14 : T' 14 u = nI (y + 1) := by rw [r6 14 (by decide) (by decide) (by decide) (by decide) (by decide), u1_eq, upd_eq]
          have m160 : M' 1 (160 + 2 * u + 1) = nI (y + 1) := by rw [r7 _ (by omega) (by omega)]; exact aS3
          rw [r1, Option.bind_some, zI_rg (by omega) (by omega), e14] at hcl0
          rw [r2, Option.bind_some, z_u (v2 := 1) u 1 rfl rfl (by omega) (by omega), Option.bind_some, m160] at hrf0
          exact ⟨_, _, hcl0, hrf0, op_ok (by decide) (near_trans n1 (near_trans n2 (near_trans n3 (near_trans r3 (near_stF (Or.inl rfl)))))) (zI_pos (by omega)) stF_eq ⟨np, nf, nu, nr', by rw [stF_1]; exact r5⟩⟩
        · rw [if_neg (ile_f (by omega) (by omega))] at hre
          rw [if_neg (show ¬ M 1 (160 + 2 * u + 0) ≤ nI (z' - (w' + h')) by rw [x1]; exact ile_f (by omega) (by omega))] at hrf0
          unfold D_X9_exchanges_117 at hrf0
          rw [z_ref1, Option.bind_some, if_neg (show ¬ (1 : Int32) = 0 by decide)] at hrf0
          exact refd 4 (z' - (w' + h')) (by omega) (by omega) (by omega) hre hrf0
  · rw [if_neg hbit, if_pos rfl] at hrf0 hre
    unfold D_X9_exchanges_41 at hrf0
    rw [z_ref1, Option.bind_some, if_neg (show ¬ (1 : Int32) = 0 by decide)] at hrf0
    exact refd 5 k (by omega) (by omega) (by omega) hre hrf0
