/-! bestMove -/
theorem rel_sc {S : CS} {M M' : RM} (h : Rel RSea S M) (h1 : ∀ k, M' 1 k = M 1 k) (h2 : M' 2 = M 2) (h0 : ∀ x, x ≠ 0 → x ≠ 6 → x ≠ 7 → x ≠ 8 → M' 0 x = M 0 x) : Rel RSea S M' := by
  obtain ⟨g0, ⟨n, hn, hn1, hn2, hh⟩, hs, ht, hx⟩ := h
  have hb : ∀ b k, blk M' b k = blk M b k := fun b k => h1 _
  refine ⟨RSea_loc _ _ _ (fun k _ => hb 0 k) g0, ⟨n, hn, (h0 2 (by decide) (by decide) (by decide) (by decide)).trans hn1, hn2, fun i hi => RSea_loc _ _ _ (fun k _ => hb (i + 1) k) (hh i hi)⟩, ⟨(h0 3 (by decide) (by decide) (by decide) (by decide)).trans hs.1, hs.2.imp id (fun q => ⟨q.1, RSea_loc _ _ _ (fun k _ => hb 7 k) q.2⟩)⟩, ?_, ?_, ?_⟩
  · unfold RlT; rw [h0 4 (by decide) (by decide) (by decide) (by decide), h0 5 (by decide) (by decide) (by decide) (by decide)]; exact ht
  · rw [h0 11 (by decide) (by decide) (by decide) (by decide)]; exact hx.1
  · obtain ⟨len, l1, l2, l3, l4⟩ := hx.2
    exact ⟨len, l1, l2, (h0 10 (by decide) (by decide) (by decide) (by decide)).trans l3, fun j hj => by rw [h2]; exact l4 j hj⟩
/-- the reference while it tries dates -/
def TryR (M Mi : RM) (c : Nat) : Prop := (∀ k, k ≠ c → Mi 1 k = M 1 k) ∧ Mi 2 = M 2 ∧ ∀ x, x ≠ 0 → x ≠ 7 → x ≠ 8 → Mi 0 x = M 0 x
theorem try_loop {T M : RM} {np nf nu nr q P Sg d0 : Nat} (hS : RS4 T (M 1) np nf nu nr) (hq : q < nf) (hP : P < np) (hSg : Sg < 3) (hd0 : d0 < 30) (p2 : M 1 (39 + 4 * q + 0) = nI P) (s2 : M 1 (39 + 4 * q + 1) = nI Sg) (q2 : M 1 (39 + 4 * q + 2) = nI d0) :
    ∀ (dd n1 n2 i : Nat) (Mi : RM) (best least : Int32), i + dd = 30 → dd < n1 → dd < n2 → TryR M Mi (39 + 4 * q + 2) → ∃ (r : Int32) (Mf : RM), D_X6_dateOfLeastPeak_33 3000 T n1 (nI q) (nI P) (nI Sg) best least (nI i) = some r ∧ D_X9_bestMove_41 3000 n2 Mi (nI q) (nI d0) best least (nI i) = some (if r = -1 then 0 else r, Mf) ∧ Mf 0 0 = (if r = -1 then 2 else 0) ∧ (∀ k, Mf 1 k = M 1 k) ∧ Mf 2 = M 2 ∧ ∀ x, x ≠ 0 → x ≠ 6 → x ≠ 7 → x ≠ 8 → Mf 0 x = M 0 x := by
  have hS' := hS
  obtain ⟨⟨c1, c2, c3, c4, d1, d2, d3, d4, d5, d6, d7, d8⟩, htop, hpro, hper, hapt, hsub, hreq, hcrw⟩ := hS'
  have i2 : ((39 : Int32) + ((4 : Int32) * nI q)) + 2 = nI (39 + 4 * q + 2) := z_at 39 4 q 2
  have hZ := zsz_of hS
  have t9 : T 9 q = nI d0 := (hper q hq).1.2.2.1.trans q2
  intro dd
  induction dd with
  | zero =>
    intro n1 n2 i Mi best least hi h1 h2 hM
    obtain ⟨n1, rfl⟩ : ∃ k, n1 = k + 1 := ⟨n1 - 1, by omega⟩
    obtain ⟨n2, rfl⟩ : ∃ k, n2 = k + 1 := ⟨n2 - 1, by omega⟩
    obtain rfl : i = 30 := by omega
    have hrow : ∀ k, stA Mi 1 (nI (39 + 4 * q + 2)) (nI d0) 1 k = M 1 k := fun k => by
      rw [stA_1 (by omega)]
      by_cases hk : k = 39 + 4 * q + 2
      · rw [hk, upd_eq, q2]
      · rw [upd_ne hk]; exact hM.1 k hk
    by_cases hb : best = -1
    · refine ⟨best, stF (stA Mi 1 (nI (39 + 4 * q + 2)) (nI d0)) 0 2, ?_, ?_, ?_, fun k => by rw [stF_1]; exact hrow k, by rw [stF_ne (by decide), stA_ne (by decide)]; exact hM.2.1, fun x h0 h6 h7 h8 => by rw [stF_o h0, stA_ne (by decide)]; exact hM.2.2 x h0 h7 h8⟩
      · rw [D_X6_dateOfLeastPeak_33, if_pos (by decide)]
      · rw [D_X9_bestMove_41, if_pos (by decide), i2, if_pos (zI_inb (by omega) (by omega))]
        simp only [jlet]
        rw [if_pos hb, stF_eq, if_neg (show ¬ (2 : Int32) = 0 by decide), if_pos hb]
      · rw [stF_eq, if_pos hb]
    · refine ⟨best, stF (stA Mi 1 (nI (39 + 4 * q + 2)) (nI d0)) 0 0, ?_, ?_, ?_, fun k => by rw [stF_1]; exact hrow k, by rw [stF_ne (by decide), stA_ne (by decide)]; exact hM.2.1, fun x h0 h6 h7 h8 => by rw [stF_o h0, stA_ne (by decide)]; exact hM.2.2 x h0 h7 h8⟩
      · rw [D_X6_dateOfLeastPeak_33, if_pos (by decide)]
      · rw [D_X9_bestMove_41, if_pos (by decide), i2, if_pos (zI_inb (by omega) (by omega))]
        simp only [jlet]
        rw [if_neg hb, stF_eq, if_pos rfl, if_neg hb]
      · rw [stF_eq, if_neg hb]
  | succ dd ih =>
    intro n1 n2 i Mi best least hi h1 h2 hM
    obtain ⟨n1, rfl⟩ : ∃ k, n1 = k + 1 := ⟨n1 - 1, by omega⟩
    obtain ⟨n2, rfl⟩ : ∃ k, n2 = k + 1 := ⟨n2 - 1, by omega⟩
    have hi30 : i < 30 := by omega
    have h30 : ¬ (30 : Int32) ≤ nI i := ile_f (a := 30) hi30 (by omega)
    have hM2 : TryR M (stA Mi 1 (nI (39 + 4 * q + 2)) (nI i)) (39 + 4 * q + 2) := ⟨fun k hk => by rw [stA_1 (by omega), upd_ne hk]; exact hM.1 k hk, (stA_ne (by decide)).trans hM.2.1, fun x h0 h7 h8 => by rw [stA_ne (by decide)]; exact hM.2.2 x h0 h7 h8⟩
    have hdate : stA Mi 1 (nI (39 + 4 * q + 2)) (nI i) 1 (39 + 4 * q + 2) = nI i := by rw [stA_1 (by omega), upd_eq]
    rw [D_X6_dateOfLeastPeak_33, if_neg h30, zI_rg (by omega) (by omega), t9, D_X9_bestMove_41, if_neg h30, i2, if_pos (zI_inb (by omega) (by omega))]
    simp only [jlet]
    generalize stA Mi 1 (nI (39 + 4 * q + 2)) (nI i) = M2 at hM2 hdate ⊢
    by_cases hown : i = d0
    · rw [if_pos (show nI i = nI d0 by rw [hown]), if_pos (show nI i = nI d0 by rw [hown])]
      unfold D_X6_dateOfLeastPeak_61
      rw [if_neg (show ¬ (1 : Int32) = 0 by decide), zI_succ]
      exact ih n1 n2 (i + 1) M2 best least (by omega) (by omega) (by omega) hM2
    · rw [if_neg (ine hown (by omega) (by omega)), if_neg (ine hown (by omega) (by omega))]
      unfold D_X6_dateOfLeastPeak_61
      rw [if_pos rfl]
      obtain ⟨dw, w1, w2⟩ := dw_some (N := 3000) hS hP hi30 hq p2 hd0 q2
      rcases z_place (N := 3000) (M' := M2) (nf' := nf) (q := q) (by omega) hS hP hSg hi30 c2 hq ((hM2.1 38 (by omega)).trans d4) (fun k hk => hM2.1 k (by omega)) ⟨(hM2.1 _ (by omega)).trans p2, (hM2.1 _ (by omega)).trans s2, hdate⟩
        (fun k hk hkq => ⟨hk, fun e => hkq ((zI_eq (by omega) (by omega)).mp e), hM2.1 _ (by omega), hM2.1 _ (by omega), hM2.1 _ (by omega)⟩)
        (fun k hk hkm => ⟨hk, fun e => hkm (by rw [e])⟩) (fun k hk hkm => by
          have e := (zI_eq (by omega) (by omega)).mp hkm
          rw [e]; exact p2) w1 w2 with ⟨a, e, g1, g2, g3, g4, g5⟩ | ⟨b1, b2, b3, b4, b5⟩
      · rw [g4, Option.bind_some, if_neg (jRef_ne0 g1 (by omega) g3), g5, Option.bind_some, if_neg (show ¬ nI a = 0 from ine (b := 0) (by omega) (by omega) (by omega)), zI_succ]
        exact ih n1 n2 (i + 1) (stF (stF (stF M2 7 0) 7 (nI a)) 8 (nI e)) best least (by omega) (by omega) (by omega) ⟨fun k hk => by rw [stF_1, stF_1, stF_1]; exact hM2.1 k hk, by rw [stF_ne (by decide), stF_ne (by decide), stF_ne (by decide)]; exact hM2.2.1, fun x h0 h7 h8 => by rw [stF_o h8, stF_o h7, stF_o h7]; exact hM2.2.2 x h0 h7 h8⟩
      · have hpc : F_X3_peakIf 3000 T (nI P) dw = some (nI (maxN (loadN (DW T (nI P) dw) (T 2) np) 30)) := c_peakIf (by omega) c1 d1 (dok_c (fun _ _ => rfl) b3) hZ.2
        have hpr : F_X9_peakNow 3000 (stF M2 7 0) = some (nI (maxN (loadN (DW T (nI P) dw) (T 2) np) 30)) := r_peak (by omega) c1 c2 (by rw [stF_1, hM2.1 5 (by omega)]; exact d2) (by rw [stF_1, hM2.1 38 (by omega)]; exact d4) (by rw [stF_1]; exact b3) (fun p hp => by rw [stF_1, hM2.1 _ (by omega)]; exact hZ.1 p hp) hZ.2
        have hM3 : TryR M (stF M2 7 0) (39 + 4 * q + 2) := ⟨fun k hk => by rw [stF_1]; exact hM2.1 k hk, by rw [stF_ne (by decide)]; exact hM2.2.1, fun x h0 h7 h8 => by rw [stF_o h7]; exact hM2.2.2 x h0 h7 h8⟩
        rw [b1, Option.bind_some, if_pos rfl, w1, Option.bind_some, hpc, Option.bind_some, b2, Option.bind_some, if_pos rfl, hpr, Option.bind_some, zI_succ]
        by_cases hb : best = -1
        · rw [if_pos hb, if_pos hb]
          exact ih n1 n2 (i + 1) _ _ _ (by omega) (by omega) (by omega) hM3
        · rw [if_neg hb, if_neg hb]
          by_cases hl : least ≤ nI (maxN (loadN (DW T (nI P) dw) (T 2) np) 30)
          · rw [if_pos hl, if_pos hl]
            exact ih n1 n2 (i + 1) _ _ _ (by omega) (by omega) (by omega) hM3
          · rw [if_neg hl, if_neg hl]
            exact ih n1 n2 (i + 1) _ _ _ (by omega) (by omega) (by omega) hM3
theorem je_bestMove : jE_bestMove (Rel RSea) := by
  intro S M v1 h
  obtain ⟨np, nf, nu, nr, hS⟩ := rel_rs h
  have hS' := hS
  obtain ⟨⟨c1, c2, c3, c4, d1, d2, d3, d4, d5, d6, d7, d8⟩, htop, hpro, hper, hapt, hsub, hreq, hcrw⟩ := hS'
  rcases zI_idx (n := nf) (by omega) v1 with hz | ⟨ho, q, hq, rfl⟩
  · refine ⟨3000, (1, 0, S), 3000, (0, stF M 0 1), ?_, ?_, Or.inr (Or.inl rfl), ?_, fun q => absurd (show (1 : Int32) = 0 from q) (by decide), rel_thr RSea_loc h 1⟩
    · unfold F_X8_bestMove; rw [z_has2, Option.bind_some, d3, hz, if_neg (by decide)]; rfl
    · unfold F_X9_bestMove D_X9_bestMove_14
      rw [z_isPerformance, Option.bind_some, d4, if_pos hz]
      simp only [jlet]
      rw [stF_eq, if_neg (show ¬ (1 : Int32) = 0 by decide)]
    · show stF M 0 1 0 0 = hk_bestMove 1
      rw [stF_eq]; rfl
  have hne : ¬ jIn (nI q) 0 (nI nf - 1) = 0 := by rw [ho]; decide
  obtain ⟨⟨a1, a2, a3, a4, a5, a6⟩, ⟨P, hP, p2⟩, ⟨d0, hd0, q2⟩, -, Sg, w, hh, z, hSg, s2, -⟩ := hper q hq
  have hS0 : RS4 (S 0) (stF M 0 0 1) np nf nu nr := by rw [stF_1]; exact hS
  obtain ⟨r, Mf, f1, f2, f3, f4, f5, f6⟩ := try_loop (M := stF M 0 0) hS0 hq hP hSg hd0 (by rw [stF_1]; exact p2) (by rw [stF_1]; exact s2) (by rw [stF_1]; exact q2) 30 3000 3000 0 (stF M 0 0) (-1) 0 (by omega) (by omega) (by omega) ⟨fun _ _ => rfl, rfl, fun _ _ _ _ => rfl⟩
  have hR : Rel RSea S Mf := rel_sc h (fun k => by rw [f4, stF_1]) (by rw [f5, stF_ne (by decide)]) (fun x h0 h6 h7 h8 => by rw [f6 x h0 h6 h7 h8, stF_o h0])
  have hc : F_X6_dateOfLeastPeak 3000 (S 0) (nI q) = some r := by
    unfold F_X6_dateOfLeastPeak
    rw [zI_rg (by omega) (by omega), zI_rg (by omega) (by omega), a1, p2, a2, s2]
    exact f1
  have hr : F_X9_bestMove 3000 M (nI q) = some (if r = -1 then 0 else r, Mf) := by
    unfold F_X9_bestMove D_X9_bestMove_14
    rw [z_isPerformance, Option.bind_some, d4, if_neg hne]
    simp only [jlet]
    rw [stF_eq, if_pos rfl, z_p (v2 := 2) q 2 rfl rfl (by omega) (by omega), Option.bind_some, stF_1, q2]
    exact f2
  by_cases hb : r = -1
  · refine ⟨3000, (5, 0, S), 3000, _, ?_, hr, Or.inr (Or.inr rfl), ?_, fun q => absurd (show (5 : Int32) = 0 from q) (by decide), hR⟩
    · unfold F_X8_bestMove
      rw [z_has2, Option.bind_some, d3, ho, if_pos (by decide), hc, Option.bind_some, if_pos hb]
    · show Mf 0 0 = hk_bestMove 5
      rw [f3, if_pos hb]; rfl
  · refine ⟨3000, (0, r, S), 3000, _, ?_, hr, Or.inl rfl, ?_, fun _ => (if_neg hb).symm, hR⟩
    · unfold F_X8_bestMove
      rw [z_has2, Option.bind_some, d3, ho, if_pos (by decide), hc, Option.bind_some, if_neg hb]
    · show Mf 0 0 = hk_bestMove 0
      rw [f3, if_neg hb]; rfl
