/-! addProduction -/
theorem jo_addProduction : jO_addProduction RSea := by
  intro T M hr v1 v2 v3 v4
  obtain ⟨np, nf, nu, nr, ⟨c1, c2, c3, c4, d1, d2, d3, d4, d5, d6, d7, d8⟩, htop, hpro, hper, hapt, hsub, hreq, hcrw⟩ := hr
  have hM : M 1 5 = nI np := (tr_M (by decide)).trans d2
  by_cases hv1 : jIn v1 1 9 = 0
  · refine ⟨(-2, T), (2, M), ?_, ?_, (show (2 : Int32) ∈ ([0, 2, 3] : List Int32) by decide), FrE_refl M, Or.inr (Or.inl ⟨rfl, rfl, rfl, Or.inr (Or.inl ⟨rfl, rfl⟩)⟩)⟩
    · unfold F_X6_makeProduction
      rw [if_pos hv1]
      unfold D_X6_makeProduction_46
      rw [if_pos rfl]
    · unfold F_X9_addsProduction
      rw [z_in, Option.bind_some, if_pos hv1]
  by_cases hv2 : jIn v2 1 6 = 0
  · refine ⟨(-2, T), (2, M), ?_, ?_, (show (2 : Int32) ∈ ([0, 2, 3] : List Int32) by decide), FrE_refl M, Or.inr (Or.inl ⟨rfl, rfl, rfl, Or.inr (Or.inl ⟨rfl, rfl⟩)⟩)⟩
    · unfold F_X6_makeProduction
      rw [if_neg hv1, if_pos hv2]
      unfold D_X6_makeProduction_46
      rw [if_pos rfl]
    · unfold F_X9_addsProduction
      rw [z_in, Option.bind_some, if_neg hv1, z_in, Option.bind_some, if_pos hv2]
  by_cases hv3 : jIn v3 1 50 = 0
  · refine ⟨(-2, T), (2, M), ?_, ?_, (show (2 : Int32) ∈ ([0, 2, 3] : List Int32) by decide), FrE_refl M, Or.inr (Or.inl ⟨rfl, rfl, rfl, Or.inr (Or.inl ⟨rfl, rfl⟩)⟩)⟩
    · unfold F_X6_makeProduction
      rw [if_neg hv1, if_neg hv2, if_pos hv3]
      unfold D_X6_makeProduction_46
      rw [if_pos rfl]
    · unfold F_X9_addsProduction
      rw [z_in, Option.bind_some, if_neg hv1, z_in, Option.bind_some, if_neg hv2, z_in, Option.bind_some, if_pos hv3]
  by_cases hv4 : jIn v4 0 100 = 0
  · refine ⟨(-2, T), (2, M), ?_, ?_, (show (2 : Int32) ∈ ([0, 2, 3] : List Int32) by decide), FrE_refl M, Or.inr (Or.inl ⟨rfl, rfl, rfl, Or.inr (Or.inl ⟨rfl, rfl⟩)⟩)⟩
    · unfold F_X6_makeProduction
      rw [if_neg hv1, if_neg hv2, if_neg hv3, if_pos hv4]
      unfold D_X6_makeProduction_46
      rw [if_pos rfl]
    · unfold F_X9_addsProduction
      rw [z_in, Option.bind_some, if_neg hv1, z_in, Option.bind_some, if_neg hv2, z_in, Option.bind_some, if_neg hv3, z_in, Option.bind_some, if_pos hv4]
  obtain ⟨y1, e1, l1, m1⟩ := zI_btw (a := 1) (b := 9) (by decide) (by decide) (Decidable.not_not.mp (fun q => hv1 (jIn_0.mpr q)))
  obtain ⟨y2, e2, l2, m2⟩ := zI_btw (a := 1) (b := 6) (by decide) (by decide) (Decidable.not_not.mp (fun q => hv2 (jIn_0.mpr q)))
  obtain ⟨y3, e3, l3, m3⟩ := zI_btw (a := 1) (b := 50) (by decide) (by decide) (Decidable.not_not.mp (fun q => hv3 (jIn_0.mpr q)))
  obtain ⟨y4, e4, l4, m4⟩ := zI_btw (a := 0) (b := 100) (by decide) (by decide) (Decidable.not_not.mp (fun q => hv4 (jIn_0.mpr q)))
  have e5 : M 1 (5 : Int32).toNatClampNeg = nI np := hM
  by_cases h8 : np = 8
  · subst h8
    refine ⟨(-3, T), (3, M), ?_, ?_, (show (3 : Int32) ∈ ([0, 2, 3] : List Int32) by decide), FrE_refl M, Or.inr (Or.inl ⟨rfl, rfl, rfl, Or.inr (Or.inr ⟨rfl, rfl⟩)⟩)⟩
    · unfold F_X6_makeProduction
      rw [if_neg hv1, if_neg hv2, if_neg hv3, if_neg hv4]
      unfold D_X6_makeProduction_46
      rw [if_neg (by decide), d1, if_pos (by decide)]
    · unfold F_X9_addsProduction
      rw [z_in, Option.bind_some, if_neg hv1, z_in, Option.bind_some, if_neg hv2, z_in, Option.bind_some, if_neg hv3, z_in, Option.bind_some, if_neg hv4, if_pos (by decide), e5, if_pos (by decide)]
  have hlt : np < 8 := by omega
  have i0 : ((6 : Int32) + ((4 : Int32) * nI np)) + 0 = nI (6 + 4 * np + 0) := z_at 6 4 np 0
  have i1 : ((6 : Int32) + ((4 : Int32) * nI np)) + 1 = nI (6 + 4 * np + 1) := z_at 6 4 np 1
  have i2 : ((6 : Int32) + ((4 : Int32) * nI np)) + 2 = nI (6 + 4 * np + 2) := z_at 6 4 np 2
  have i3 : ((6 : Int32) + ((4 : Int32) * nI np)) + 3 = nI (6 + 4 * np + 3) := z_at 6 4 np 3
  have inn : ∀ x, x < 4 → inb (nI (6 + 4 * np + x)) 2169 = true := fun x hx => zI_inb (by omega) (by omega)
  have row : ∀ x, (stF (stA (stA (stA (stA (stA M 1 (nI (6 + 4 * np + 0)) v1) 1 (nI (6 + 4 * np + 1)) v2) 1 (nI (6 + 4 * np + 2)) v3) 1 (nI (6 + 4 * np + 3)) v4) 1 5 (nI (np + 1))) 6 (nI np)) 1 x = upd (upd (upd (upd (upd (M 1) (6 + 4 * np + 0) v1) (6 + 4 * np + 1) v2) (6 + 4 * np + 2) v3) (6 + 4 * np + 3) v4) 5 (nI (np + 1)) x := fun x => by
    rw [stF_ne (by decide), show (5 : Int32) = nI 5 from rfl, stA_1 (by decide), stA_1 (by omega), stA_1 (by omega), stA_1 (by omega), stA_1 (by omega)]
  refine ⟨(nI np, (mgX3 T (stF (u1 (u1 (u1 (u1 (u1 T 2 (upd (T 2) np v1)) 3 (upd (T 3) np v2)) 4 (upd (T 4) np v3)) 5 (upd (T 5) np v4)) 6 (upd (T 6) np 0)) 2 (nI (np + 1))))), (0, (stF (stA (stA (stA (stA (stA M 1 (nI (6 + 4 * np + 0)) v1) 1 (nI (6 + 4 * np + 1)) v2) 1 (nI (6 + 4 * np + 2)) v3) 1 (nI (6 + 4 * np + 3)) v4) 1 5 (nI (np + 1))) 6 (nI np))), ?_, ?_, (show (0 : Int32) ∈ ([0, 2, 3] : List Int32) by decide), ⟨?_, ?_, ?_⟩, Or.inl ⟨zI_pos (by omega), rfl, ?_, ?_, ?_, ?_⟩⟩
  · unfold F_X6_makeProduction
    rw [if_neg hv1, if_neg hv2, if_neg hv3, if_neg hv4]
    unfold D_X6_makeProduction_46
    rw [if_neg (by decide), d1, if_neg (show ¬ (8 : Int32) ≤ nI np from fun q => absurd ((zI_le (a := 8) (by omega) (by omega)).mp q) (by omega))]
    unfold F_X3_add
    simp only [jlet]
    rw [d1, zI_rs (by omega) (by omega), u1_ne (show (3 : Nat) ≠ 2 by decide), zI_rs (by omega) (by omega), u1_ne (show (4 : Nat) ≠ 3 by decide), u1_ne (show (4 : Nat) ≠ 2 by decide), zI_rs (by omega) (by omega), u1_ne (show (5 : Nat) ≠ 4 by decide), u1_ne (show (5 : Nat) ≠ 3 by decide), u1_ne (show (5 : Nat) ≠ 2 by decide), zI_rs (by omega) (by omega), u1_ne (show (6 : Nat) ≠ 5 by decide), u1_ne (show (6 : Nat) ≠ 4 by decide), u1_ne (show (6 : Nat) ≠ 3 by decide), u1_ne (show (6 : Nat) ≠ 2 by decide), zI_rs (by omega) (by omega), Option.bind_some]
    rw [u1_ne (show (0 : Nat) ≠ 6 by decide), u1_ne (show (0 : Nat) ≠ 5 by decide), u1_ne (show (0 : Nat) ≠ 4 by decide), u1_ne (show (0 : Nat) ≠ 3 by decide), u1_ne (show (0 : Nat) ≠ 2 by decide), d1, zI_succ]
  · unfold F_X9_addsProduction
    rw [z_in, Option.bind_some, if_neg hv1, z_in, Option.bind_some, if_neg hv2, z_in, Option.bind_some, if_neg hv3, z_in, Option.bind_some, if_neg hv4, if_pos (by decide), e5, if_neg (show ¬ nI np = 8 from fun q => h8 ((zI_eq (b := 8) (by omega) (by omega)).mp q)), i0, i1, i2, i3, if_pos (inn 0 (by decide))]
    simp only [jlet]
    rw [if_pos (inn 1 (by decide)), if_pos (inn 2 (by decide)), if_pos (inn 3 (by decide)), if_pos (by decide), if_pos (by decide)]
    have e : stA (stA (stA (stA M 1 (nI (6 + 4 * np + 0)) v1) 1 (nI (6 + 4 * np + 1)) v2) 1 (nI (6 + 4 * np + 2)) v3) 1 (nI (6 + 4 * np + 3)) v4 1 (5 : Int32).toNatClampNeg = nI np := by
      rw [stA_1 (by omega), stA_1 (by omega), stA_1 (by omega), stA_1 (by omega)]
      show upd (upd (upd (upd (M 1) _ v1) _ v2) _ v3) _ v4 5 = _
      rw [upd_ne (by omega), upd_ne (by omega), upd_ne (by omega), upd_ne (by omega)]
      exact hM
    rw [e, zI_succ]
  · intro r h0 h1
    show (stF (stA (stA (stA (stA (stA M 1 (nI (6 + 4 * np + 0)) v1) 1 (nI (6 + 4 * np + 1)) v2) 1 (nI (6 + 4 * np + 2)) v3) 1 (nI (6 + 4 * np + 3)) v4) 1 5 (nI (np + 1))) 6 (nI np)) r = M r
    rw [stF_ne h0, stA_ne h1, stA_ne h1, stA_ne h1, stA_ne h1, stA_ne h1]
  · intro x h4 h5 h6 h7 h8
    show (stF (stA (stA (stA (stA (stA M 1 (nI (6 + 4 * np + 0)) v1) 1 (nI (6 + 4 * np + 1)) v2) 1 (nI (6 + 4 * np + 2)) v3) 1 (nI (6 + 4 * np + 3)) v4) 1 5 (nI (np + 1))) 6 (nI np)) 0 x = M 0 x
    rw [stF_o h6, stA_ne (by decide), stA_ne (by decide), stA_ne (by decide), stA_ne (by decide), stA_ne (by decide)]
  · intro b k hb hb8 hk
    show (stF (stA (stA (stA (stA (stA M 1 (nI (6 + 4 * np + 0)) v1) 1 (nI (6 + 4 * np + 1)) v2) 1 (nI (6 + 4 * np + 2)) v3) 1 (nI (6 + 4 * np + 3)) v4) 1 5 (nI (np + 1))) 6 (nI np)) 1 (241 * b + k) = M 1 (241 * b + k)
    rw [row, upd_ne (by omega), upd_ne (by omega), upd_ne (by omega), upd_ne (by omega), upd_ne (by omega)]
  · show (stF (stA (stA (stA (stA (stA M 1 (nI (6 + 4 * np + 0)) v1) 1 (nI (6 + 4 * np + 1)) v2) 1 (nI (6 + 4 * np + 2)) v3) 1 (nI (6 + 4 * np + 3)) v4) 1 5 (nI (np + 1))) 6 (nI np)) 0 6 = nI np
    rw [stF_eq]
  · have hA : ∀ k, k < 241 → tr (blk (stF (stA (stA (stA (stA (stA M 1 (nI (6 + 4 * np + 0)) v1) 1 (nI (6 + 4 * np + 1)) v2) 1 (nI (6 + 4 * np + 2)) v3) 1 (nI (6 + 4 * np + 3)) v4) 1 5 (nI (np + 1))) 6 (nI np)) 0) k = upd (upd (upd (upd (upd (tr (blk M 0)) (6 + 4 * np + 0) v1) (6 + 4 * np + 1) v2) (6 + 4 * np + 2) v3) (6 + 4 * np + 3) v4) 5 (nI (np + 1)) k := by
      intro k hk
      rw [tr_lt hk, blk_0, row]
      unfold upd
      have := tr_M (M := M) hk
      rw [this]
    show RSea0 (mgX3 T (stF (u1 (u1 (u1 (u1 (u1 T 2 (upd (T 2) np v1)) 3 (upd (T 3) np v2)) 4 (upd (T 4) np v3)) 5 (upd (T 5) np v4)) 6 (upd (T 6) np 0)) 2 (nI (np + 1)))) (tr (blk (stF (stA (stA (stA (stA (stA M 1 (nI (6 + 4 * np + 0)) v1) 1 (nI (6 + 4 * np + 1)) v2) 1 (nI (6 + 4 * np + 2)) v3) 1 (nI (6 + 4 * np + 3)) v4) 1 5 (nI (np + 1))) 6 (nI np)) 0))
    generalize tr (blk (stF (stA (stA (stA (stA (stA M 1 (nI (6 + 4 * np + 0)) v1) 1 (nI (6 + 4 * np + 1)) v2) 1 (nI (6 + 4 * np + 2)) v3) 1 (nI (6 + 4 * np + 3)) v4) 1 5 (nI (np + 1))) 6 (nI np)) 0) = A' at hA
    have hN : ∀ k, k < 241 → k ≠ 5 → (k < 6 + 4 * np ∨ 6 + 4 * np + 4 ≤ k) → A' k = tr (blk M 0) k := fun k hk h1 h2 => by
      rw [hA k hk, upd_ne h1, upd_ne (by omega), upd_ne (by omega), upd_ne (by omega), upd_ne (by omega)]
    have t2 : (mgX3 T (stF (u1 (u1 (u1 (u1 (u1 T 2 (upd (T 2) np v1)) 3 (upd (T 3) np v2)) 4 (upd (T 4) np v3)) 5 (upd (T 5) np v4)) 6 (upd (T 6) np 0)) 2 (nI (np + 1)))) 2 = upd (T 2) np v1 := rfl
    have t3 : (mgX3 T (stF (u1 (u1 (u1 (u1 (u1 T 2 (upd (T 2) np v1)) 3 (upd (T 3) np v2)) 4 (upd (T 4) np v3)) 5 (upd (T 5) np v4)) 6 (upd (T 6) np 0)) 2 (nI (np + 1)))) 3 = upd (T 3) np v2 := rfl
    have t4 : (mgX3 T (stF (u1 (u1 (u1 (u1 (u1 T 2 (upd (T 2) np v1)) 3 (upd (T 3) np v2)) 4 (upd (T 4) np v3)) 5 (upd (T 5) np v4)) 6 (upd (T 6) np 0)) 2 (nI (np + 1)))) 4 = upd (T 4) np v3 := rfl
    have t5 : (mgX3 T (stF (u1 (u1 (u1 (u1 (u1 T 2 (upd (T 2) np v1)) 3 (upd (T 3) np v2)) 4 (upd (T 4) np v3)) 5 (upd (T 5) np v4)) 6 (upd (T 6) np 0)) 2 (nI (np + 1)))) 5 = upd (T 5) np v4 := rfl
    have t6 : (mgX3 T (stF (u1 (u1 (u1 (u1 (u1 T 2 (upd (T 2) np v1)) 3 (upd (T 3) np v2)) 4 (upd (T 4) np v3)) 5 (upd (T 5) np v4)) 6 (upd (T 6) np 0)) 2 (nI (np + 1)))) 6 = upd (T 6) np 0 := rfl
    have hBb : ∀ k, 39 ≤ k → k < 241 → A' k = tr (blk M 0) k := fun k h1 h2 => hN k h2 (by omega) (by omega)
    refine ⟨np + 1, nf, nu, nr, ⟨by omega, c2, c3, c4, rfl, ?_, d3, ?_, d5, ?_, d7, ?_⟩, RTop_c rfl rfl rfl (fun k hk => hN k (by omega) (by omega) (by omega)) htop, fun p hp => ?_, fun k hk => ?_, RApt_c c2 (fun k h1 h2 => hBb k h1 (by omega)) hapt, RSub_c (fun _ _ => rfl) (fun _ _ => rfl) (fun u hu => ⟨hBb _ (by omega) (by omega), hBb _ (by omega) (by omega)⟩) hsub, RReq_c c4 rfl rfl rfl (fun k h1 h2 => hBb k (by omega) h2) hreq, fun d hd => ?_⟩
    · rw [hA 5 (by omega), upd_eq]
    · rw [hN 38 (by omega) (by omega) (by omega)]; exact d4
    · rw [hBb 159 (by omega) (by omega)]; exact d6
    · rw [hBb 180 (by omega) (by omega)]; exact d8
    · rw [t2, t3, t4, t5, t6]
      by_cases hpn : p = np
      · subst hpn
        have q0 : A' (6 + 4 * p + 0) = v1 := by rw [hA _ (by omega), upd_ne (by omega), upd_ne (by omega), upd_ne (by omega), upd_ne (by omega), upd_eq]
        have q1 : A' (6 + 4 * p + 1) = v2 := by rw [hA _ (by omega), upd_ne (by omega), upd_ne (by omega), upd_ne (by omega), upd_eq]
        have q2 : A' (6 + 4 * p + 2) = v3 := by rw [hA _ (by omega), upd_ne (by omega), upd_ne (by omega), upd_eq]
        have q3 : A' (6 + 4 * p + 3) = v4 := by rw [hA _ (by omega), upd_ne (by omega), upd_eq]
        rw [q0, q1, q2, q3, upd_eq, upd_eq, upd_eq, upd_eq, upd_eq]
        refine ⟨⟨rfl, rfl, rfl, rfl⟩, ⟨⟨y1, e1, m1⟩, ⟨y2, e2, m2⟩, ⟨y3, e3, m3⟩, y4, e4, m4⟩, 0, rfl, by decide, fun d hd => ⟨(fun q => by rw [Nat.zero_testBit] at q; cases q), ?_⟩⟩
        rintro ⟨k, k1, k2, k3⟩
        obtain ⟨-, ⟨p', p1, p2⟩, -⟩ := hper k k1
        rw [hBb _ (by omega) (by omega), p2] at k2
        have := (zI_eq (by omega) (by omega)).mp k2
        omega
      · obtain ⟨⟨a1, a2, a3, a4⟩, ⟨b1, b2, b3, b4⟩, m, g1, g2, g3⟩ := hpro p (by omega)
        rw [upd_ne hpn, upd_ne hpn, upd_ne hpn, upd_ne hpn, upd_ne hpn, hN (6 + 4 * p + 0) (by omega) (by omega) (by omega), hN (6 + 4 * p + 1) (by omega) (by omega) (by omega), hN (6 + 4 * p + 2) (by omega) (by omega) (by omega), hN (6 + 4 * p + 3) (by omega) (by omega) (by omega)]
        refine ⟨⟨a1, a2, a3, a4⟩, ⟨b1, b2, b3, b4⟩, m, g1, g2, fun d hd => (g3 d hd).trans ⟨?_, ?_⟩⟩
        · rintro ⟨k, k1, k2, k3⟩
          exact ⟨k, k1, by rw [hBb _ (by omega) (by omega)]; exact k2, by rw [hBb _ (by omega) (by omega)]; exact k3⟩
        · rintro ⟨k, k1, k2, k3⟩
          rw [hBb _ (by omega) (by omega)] at k2 k3
          exact ⟨k, k1, k2, k3⟩
    · have hq := RPer_c c2 (Nat.le_refl nu) (T' := (mgX3 T (stF (u1 (u1 (u1 (u1 (u1 T 2 (upd (T 2) np v1)) 3 (upd (T 3) np v2)) 4 (upd (T 4) np v3)) 5 (upd (T 5) np v4)) 6 (upd (T 6) np 0)) 2 (nI (np + 1))))) (A' := A') rfl rfl rfl rfl rfl rfl (fun k hk => hN k (by omega) (by omega) (by omega)) (fun k h1 h2 => hBb k h1 (by omega)) (fun k hk => heldS_c (hBb _ (by omega) (by omega)) (fun u hu => hBb _ (by omega) (by omega))) hper k hk
      obtain ⟨a, ⟨p, p1, p2⟩, b⟩ := hq
      exact ⟨a, ⟨p, by omega, p2⟩, b⟩
    · rw [t6, t3]
      have e : crewN (upd (T 6) np 0) (upd (T 3) np v2) (np + 1) d = crewN (T 6) (T 3) np d := by
        unfold crewN
        rw [sumN, upd_eq, show (nv 0).testBit d = false from Nat.zero_testBit d, if_neg (by decide), Nat.add_zero]
        exact sumN_congr (fun p hp => by rw [upd_ne (by omega), upd_ne (by omega)])
      rw [e]
      exact hcrw d hd
  · show (stF (stA (stA (stA (stA (stA M 1 (nI (6 + 4 * np + 0)) v1) 1 (nI (6 + 4 * np + 1)) v2) 1 (nI (6 + 4 * np + 2)) v3) 1 (nI (6 + 4 * np + 3)) v4) 1 5 (nI (np + 1))) 6 (nI np)) 0 4 = M 0 4
    rw [stF_o (by decide), stA_ne (by decide), stA_ne (by decide), stA_ne (by decide), stA_ne (by decide), stA_ne (by decide)]
  · show (stF (stA (stA (stA (stA (stA M 1 (nI (6 + 4 * np + 0)) v1) 1 (nI (6 + 4 * np + 1)) v2) 1 (nI (6 + 4 * np + 2)) v3) 1 (nI (6 + 4 * np + 3)) v4) 1 5 (nI (np + 1))) 6 (nI np)) 0 5 = M 0 5
    rw [stF_o (by decide), stA_ne (by decide), stA_ne (by decide), stA_ne (by decide), stA_ne (by decide), stA_ne (by decide)]
