/-! sell -/
theorem jo_sell : jO_sell RSea := by
  intro T M hr v1 v2
  obtain ⟨np, nf, nu, nr, hc, htop, hpro, hper, hapt, hsub, hreq, hcrw⟩ := hr
  have hc' := hc
  obtain ⟨c1, c2, c3, c4, d1, d2, d3, d4, d5, d6, d7, d8⟩ := hc'
  have h38 : M 1 38 = nI nf := (tr_M (by decide)).trans d4
  rcases zI_idx (n := nf) (by omega) v1 with hz | ⟨ho, k, hk, rfl⟩
  · refine ⟨(-1, T), (1, M), ?_, ?_, (show (1 : Int32) ∈ ([0, 1, 2, 4] : List Int32) by decide), FrE_refl M, Or.inr (Or.inl ⟨rfl, rfl, rfl, Or.inl ⟨rfl, rfl⟩⟩)⟩
    · unfold F_X6_sellSeats; rw [z_has2, Option.bind_some, d3, if_pos hz]
    · unfold F_X9_sells; rw [z_isPerformance, Option.bind_some, h38, if_pos hz]
  have hne : ¬ jIn (nI k) 0 (nI nf - 1) = 0 := by rw [ho]; decide
  by_cases hv : jIn v2 1 99 = 0
  · refine ⟨(-2, T), (2, M), ?_, ?_, (show (2 : Int32) ∈ ([0, 1, 2, 4] : List Int32) by decide), FrE_refl M, Or.inr (Or.inl ⟨rfl, rfl, rfl, Or.inr (Or.inl ⟨rfl, rfl⟩)⟩)⟩
    · unfold F_X6_sellSeats; rw [z_has2, Option.bind_some, d3, if_neg hne, if_pos hv]
    · unfold F_X9_sells; rw [z_isPerformance, Option.bind_some, h38, if_neg hne, z_in, Option.bind_some, if_pos hv]
  obtain ⟨z2, rfl, y1, y2⟩ := zI_btw (a := 1) (b := 99) (by decide) (by decide) (Decidable.not_not.mp (fun q => hv (jIn_0.mpr q)))
  obtain ⟨s, w, h, z, f1, f2, f3, f4, f5, f6, f7, f8, f9, f10, f11, f12, f13⟩ := z_free (N := 3000) (by omega) hc htop hper hk
  have hcls : F_X6_sellSeats 3000 T (nI k) (nI z2) = if nI z2 ≤ nI (z - (w + h)) then (jlet (u1 T 10 (rs 24 (T 10) (nI k) (rg 24 (T 10) (nI k) + nI z2))) (fun M5 => (some ((nI (z - (w + h)) - nI z2), M5)))) else (some ((jRef (4 : Int32) (nI (z - (w + h)))), T)) := by
    unfold F_X6_sellSeats
    rw [z_has2, Option.bind_some, d3, if_neg hne, if_neg hv, f13, Option.bind_some]
  have href : F_X9_sells 3000 M (nI k) (nI z2) = if nI z2 ≤ nI (z - (w + h)) then D_X9_sells_39 3000 M (nI k) (nI z2) (nI (z - (w + h))) 0 else D_X9_sells_39 3000 M (nI k) (nI z2) (nI (z - (w + h))) 1 := by
    unfold F_X9_sells
    rw [z_isPerformance, Option.bind_some, h38, if_neg hne, z_in, Option.bind_some, if_neg hv, f11, Option.bind_some]
  have e39 : ((39 : Int32) + ((4 : Int32) * nI k)) + (3 : Int32) = nI (39 + 4 * k + 3) := z_at 39 4 k 3
  by_cases hf : z2 ≤ z - (w + h)
  · have hle : nI z2 ≤ nI (z - (w + h)) := (zI_le (by omega) (by omega)).mpr hf
    refine ⟨(nI (z - (w + h) - z2), u1 T 10 (upd (T 10) k (nI (w + z2)))), (0, stF (stA M 1 (nI (39 + 4 * k + 3)) (nI (w + z2))) 6 (nI (z - (w + h) - z2))), ?_, ?_, (show (0 : Int32) ∈ ([0, 1, 2, 4] : List Int32) by decide), ⟨?_, ?_, ?_⟩, Or.inl ⟨zI_pos (by omega), rfl, ?_, ?_, ?_, ?_⟩⟩
    · rw [hcls, if_pos hle]
      simp only [jlet]
      rw [zI_rs (by omega) (by omega), zI_rg (by omega) (by omega), f5, zI_add, zI_sub hf]
    · rw [href, if_pos hle]
      unfold D_X9_sells_39
      rw [z_ref0, Option.bind_some, if_pos rfl, e39, if_pos (zI_inb (by omega) (by omega)), if_pos (zI_inb (by omega) (by omega))]
      simp only [jlet]
      rw [zI_nat (by omega), f8, zI_add, zI_sub hf]
    · intro r h0 h1
      show stF (stA M 1 (nI (39 + 4 * k + 3)) (nI (w + z2))) 6 (nI (z - (w + h) - z2)) r = M r
      rw [stF_ne h0, stA_ne h1]
    · intro x h4 h5 h6 h7 h8
      show stF (stA M 1 (nI (39 + 4 * k + 3)) (nI (w + z2))) 6 (nI (z - (w + h) - z2)) 0 x = M 0 x
      rw [stF_o h6, stA_ne (by decide)]
    · intro b x hb hb8 hx
      show blk (stF (stA M 1 (nI (39 + 4 * k + 3)) (nI (w + z2))) 6 (nI (z - (w + h) - z2))) b x = blk M b x
      rw [stF_blk]
      unfold blk
      rw [stA_1 (by omega), upd_ne (by omega)]
    · show stF (stA M 1 (nI (39 + 4 * k + 3)) (nI (w + z2))) 6 (nI (z - (w + h) - z2)) 0 6 = nI (z - (w + h) - z2)
      rw [stF_eq]
    · have hA : ∀ x, x < 241 → tr (blk (stF (stA M 1 (nI (39 + 4 * k + 3)) (nI (w + z2))) 6 (nI (z - (w + h) - z2))) 0) x = upd (tr (blk M 0)) (39 + 4 * k + 3) (nI (w + z2)) x := by
        intro x hx
        rw [tr_lt hx, stF_blk, blk_0, stA_1 (by omega)]
        unfold upd
        have := tr_M (M := M) hx
        rw [this]
      show RSea0 (u1 T 10 (upd (T 10) k (nI (w + z2)))) (tr (blk (stF (stA M 1 (nI (39 + 4 * k + 3)) (nI (w + z2))) 6 (nI (z - (w + h) - z2))) 0))
      generalize tr (blk (stF (stA M 1 (nI (39 + 4 * k + 3)) (nI (w + z2))) 6 (nI (z - (w + h) - z2))) 0) = A' at hA
      have hN : ∀ x, x < 241 → x ≠ 39 + 4 * k + 3 → A' x = tr (blk M 0) x := fun x hx h1 => by rw [hA x hx, upd_ne h1]
      have tj : ∀ r, r ≠ 10 → u1 T 10 (upd (T 10) k (nI (w + z2))) r = T r := fun r hr => u1_ne hr
      refine ⟨np, nf, nu, nr, ⟨c1, c2, c3, c4, d1, ?_, d3, ?_, d5, ?_, d7, ?_⟩, RTop_c rfl rfl rfl (fun x hx => hN x (by omega) (by omega)) htop, RPro_c2 c1 rfl rfl rfl rfl rfl (fun x h1 h2 => hN x (by omega) (by omega)) (fun i hi => ⟨hN _ (by omega) (by omega), hN _ (by omega) (by omega)⟩) hpro, fun i hi => ?_, RApt_c2 (fun i hi => ⟨hN _ (by omega) (by omega), hN _ (by omega) (by omega), hN _ (by omega) (by omega)⟩) hapt, RSub_c (fun _ _ => rfl) (fun _ _ => rfl) (fun u hu => ⟨hN _ (by omega) (by omega), hN _ (by omega) (by omega)⟩) hsub, RReq_c c4 rfl rfl rfl (fun x h1 h2 => hN x h2 (by omega)) hreq, fun d hd => hcrw d hd⟩
      · rw [hN 5 (by omega) (by omega)]; exact d2
      · rw [hN 38 (by omega) (by omega)]; exact d4
      · rw [hN 159 (by omega) (by omega)]; exact d6
      · rw [hN 180 (by omega) (by omega)]; exact d8
      · have hh : heldS A' i nu = heldS (tr (blk M 0)) i nu := heldS_c (hN _ (by omega) (by omega)) (fun u hu => hN _ (by omega) (by omega))
        obtain ⟨⟨a1, a2, a3, a4, a5, a6⟩, b1, b2, b3, s', w', h', z', g1, g2, g3, g4, g5, g6, g7⟩ := hper i hi
        rw [tj 7 (by decide), tj 8 (by decide), tj 9 (by decide), tj 11 (by decide), tj 12 (by decide), u1_eq, hN (39 + 4 * i + 0) (by omega) (by omega), hN (39 + 4 * i + 1) (by omega) (by omega), hN (39 + 4 * i + 2) (by omega) (by omega), hN (135 + i) (by omega) (by omega), hh]
        by_cases hik : i = k
        · subst hik
          rw [hA (39 + 4 * i + 3) (by omega), upd_eq, upd_eq]
          refine ⟨⟨a1, a2, a3, rfl, a5, a6⟩, b1, b2, b3, s, w + z2, h, z, f1, ?_, rfl, ?_, ?_, f2, by omega⟩
          · exact a2.symm.trans f4
          · exact a5.symm.trans f6
          · rw [hN s (by omega) (by omega)]
            exact ((htop.2.2.2.2 s f1).1).symm.trans f7
        · rw [hN (39 + 4 * i + 3) (by omega) (by omega), upd_ne hik]
          exact ⟨⟨a1, a2, a3, a4, a5, a6⟩, b1, b2, b3, s', w', h', z', g1, g2, g3, g4, by rw [hN s' (by omega) (by omega)]; exact g5, g6, g7⟩
    · show stF (stA M 1 (nI (39 + 4 * k + 3)) (nI (w + z2))) 6 (nI (z - (w + h) - z2)) 0 4 = M 0 4
      rw [stF_o (by decide), stA_ne (by decide)]
    · show stF (stA M 1 (nI (39 + 4 * k + 3)) (nI (w + z2))) 6 (nI (z - (w + h) - z2)) 0 5 = M 0 5
      rw [stF_o (by decide), stA_ne (by decide)]
  · have hle : ¬ nI z2 ≤ nI (z - (w + h)) := fun q => hf ((zI_le (by omega) (by omega)).mp q)
    refine ⟨(jRef 4 (nI (z - (w + h))), T), (4, stF (stF M 4 4) 5 (nI (z - (w + h)))), ?_, ?_, (show (4 : Int32) ∈ ([0, 1, 2, 4] : List Int32) by decide), FrE_ref M _ _, Or.inr (Or.inr ⟨rfl, rfl, 4, z - (w + h), by decide, by decide, by omega, rfl, ?_, ?_⟩)⟩
    · rw [hcls, if_neg hle]
    · rw [href, if_neg hle]
      unfold D_X9_sells_39
      rw [z_ref1, Option.bind_some, if_neg (show ¬ (1 : Int32) = 0 by decide)]
    · show stF (stF M 4 4) 5 (nI (z - (w + h))) 0 4 = nI 4
      rw [stF_o (by decide), stF_eq]; rfl
    · show stF (stF M 4 4) 5 (nI (z - (w + h))) 0 5 = nI (z - (w + h))
      rw [stF_eq]
