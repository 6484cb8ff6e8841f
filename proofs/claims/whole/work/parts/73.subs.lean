/-! subscribe -/
theorem FrE_refl (M : RM) : FrE M M := ⟨fun _ _ _ => rfl, fun _ _ _ _ _ _ => rfl, fun _ _ _ _ _ => rfl⟩
theorem upd_eq {f : Nat → Int32} {i : Nat} {v : Int32} : upd f i v i = v := by unfold upd; rw [if_pos rfl]
theorem upd_ne {f : Nat → Int32} {i x : Nat} {v : Int32} (h : x ≠ i) : upd f i v x = f x := by unfold upd; rw [if_neg h]
theorem jIn_0 {v a b : Int32} : jIn v a b = 0 ↔ ¬ (a ≤ v ∧ v ≤ b) := by
  rw [jIn_eq]
  by_cases h : a ≤ v ∧ v ≤ b
  · rw [if_pos h]; exact ⟨fun q => absurd q (by decide), fun q => absurd h q⟩
  · rw [if_neg h]; exact ⟨fun _ => h, fun _ => rfl⟩
/-- a number between two of ours -/
theorem zI_btw {v : Int32} {a b : Nat} (hb : b < 2 ^ 31) (ha : a ≤ b) (h : nI a ≤ v ∧ v ≤ nI b) : ∃ z, v = nI z ∧ a ≤ z ∧ z ≤ b := by
  have h1 := Int32.le_iff_toInt_le.mp h.1
  have h2 := Int32.le_iff_toInt_le.mp h.2
  rw [zI_int (by omega)] at h1
  rw [zI_int hb] at h2
  refine ⟨v.toInt.toNat, ?_, by omega, by omega⟩
  refine Int32.toInt_inj.mp ?_
  rw [zI_int (by omega)]
  omega
theorem stA_1 {M : RM} {i : Nat} {v : Int32} (hi : i < 2 ^ 31) : stA M 1 (nI i) v 1 = upd (M 1) i v := by
  unfold stA
  rw [u1_eq, zI_nat hi]
theorem stA_ne {M : RM} {i v : Int32} {r : Nat} (h : r ≠ 1) : stA M 1 i v r = M r := u1_ne h
theorem jo_subscribe : jO_subscribe RSea := by
  intro T M hr v1
  obtain ⟨np, nf, nu, nr, ⟨c1, c2, c3, c4, d1, d2, d3, d4, d5, d6, d7, d8⟩, htop, hpro, hper, hapt, hsub, hreq, hcrw⟩ := hr
  have hM : M 1 159 = nI nu := (tr_M (by decide)).trans d6
  by_cases hv : jIn v1 1 6 = 0
  · refine ⟨(-2, T), (2, M), ?_, ?_, (show (2 : Int32) ∈ ([0, 2, 3] : List Int32) by decide), FrE_refl M, Or.inr (Or.inl ⟨rfl, rfl, rfl, Or.inr (Or.inl ⟨rfl, rfl⟩)⟩)⟩
    · unfold F_X6_makeSubscription; rw [if_pos hv]
    · unfold F_X9_subscribes; rw [z_in, Option.bind_some, if_pos hv]
  obtain ⟨z, hz, z1, z6⟩ := zI_btw (a := 1) (b := 6) (by decide) (by decide) (Decidable.not_not.mp (fun q => hv (jIn_0.mpr q)))
  have e159 : M 1 (159 : Int32).toNatClampNeg = nI nu := hM
  by_cases h10 : nu = 10
  · subst h10
    refine ⟨(-3, T), (3, M), ?_, ?_, (show (3 : Int32) ∈ ([0, 2, 3] : List Int32) by decide), FrE_refl M, Or.inr (Or.inl ⟨rfl, rfl, rfl, Or.inr (Or.inr ⟨rfl, rfl⟩)⟩)⟩
    · unfold F_X6_makeSubscription; rw [if_neg hv, d5, if_pos (by decide)]
    · unfold F_X9_subscribes; rw [z_in, Option.bind_some, if_neg hv, if_pos (by decide), e159, if_pos (by decide)]
  have hlt : nu < 10 := by omega
  have i0 : ((160 : Int32) + ((2 : Int32) * nI nu)) + 0 = nI (160 + 2 * nu + 0) := z_at 160 2 nu 0
  have i1 : ((160 : Int32) + ((2 : Int32) * nI nu)) + 1 = nI (160 + 2 * nu + 1) := z_at 160 2 nu 1
  refine ⟨(nI nu, mgX7 T (stF (u1 (u1 T 13 (upd (T 13) nu v1)) 14 (upd (T 14) nu 0)) 4 (nI (nu + 1)))), (0, stF (stA (stA (stA M 1 (nI (160 + 2 * nu + 0)) v1) 1 (nI (160 + 2 * nu + 1)) 0) 1 159 (nI (nu + 1))) 6 (nI nu)), ?_, ?_, (show (0 : Int32) ∈ ([0, 2, 3] : List Int32) by decide), ⟨?_, ?_, ?_⟩, Or.inl ⟨zI_pos (by omega), rfl, ?_, ?_, ?_, ?_⟩⟩
  · unfold F_X6_makeSubscription
    rw [if_neg hv, d5, if_neg (show ¬ (10 : Int32) ≤ nI nu from fun q => absurd ((zI_le (a := 10) (by omega) (by omega)).mp q) (by omega))]
    unfold F_X7_add
    simp only [jlet]
    rw [d5, zI_rs (by omega) (by omega), u1_ne (show (14 : Nat) ≠ 13 by decide), zI_rs (by omega) (by omega), Option.bind_some]
    rw [u1_ne (show (0 : Nat) ≠ 14 by decide), u1_ne (show (0 : Nat) ≠ 13 by decide), d5, zI_succ]
  · unfold F_X9_subscribes
    rw [z_in, Option.bind_some, if_neg hv, if_pos (by decide), e159, if_neg (show ¬ nI nu = 10 from fun q => h10 ((zI_eq (b := 10) (by omega) (by omega)).mp q)), i0, i1, if_pos (zI_inb (by omega) (by omega))]
    simp only [jlet]
    rw [if_pos (zI_inb (by omega) (by omega)), if_pos (by decide), if_pos (by decide)]
    have e : stA (stA M 1 (nI (160 + 2 * nu + 0)) v1) 1 (nI (160 + 2 * nu + 1)) 0 1 (159 : Int32).toNatClampNeg = nI nu := by
      rw [stA_1 (by omega), stA_1 (by omega)]
      show upd (upd (M 1) _ v1) _ 0 159 = _
      rw [upd_ne (by omega), upd_ne (by omega)]
      exact hM
    rw [e, zI_succ]
  · intro r h0 h1
    show stF _ 6 _ r = M r
    rw [stF_ne h0, stA_ne h1, stA_ne h1, stA_ne h1]
  · intro x h4 h5 h6 h7 h8
    show stF _ 6 _ 0 x = M 0 x
    rw [stF_o h6, stA_ne (by decide), stA_ne (by decide), stA_ne (by decide)]
  · intro b k hb hb8 hk
    show blk (stF _ 6 _) b k = blk M b k
    rw [stF_blk]
    unfold blk
    rw [show (159 : Int32) = nI 159 from rfl, stA_1 (by decide), stA_1 (by omega), stA_1 (by omega), upd_ne (by omega), upd_ne (by omega), upd_ne (by omega)]
  · show stF (stA (stA (stA M 1 (nI (160 + 2 * nu + 0)) v1) 1 (nI (160 + 2 * nu + 1)) 0) 1 159 (nI (nu + 1))) 6 (nI nu) 0 6 = nI nu
    rw [stF_eq]
  · have hA : ∀ k, k < 241 → tr (blk (stF (stA (stA (stA M 1 (nI (160 + 2 * nu + 0)) v1) 1 (nI (160 + 2 * nu + 1)) 0) 1 159 (nI (nu + 1))) 6 (nI nu)) 0) k = upd (upd (upd (tr (blk M 0)) (160 + 2 * nu + 0) v1) (160 + 2 * nu + 1) 0) 159 (nI (nu + 1)) k := by
      intro k hk
      rw [tr_lt hk, stF_blk, blk_0, show (159 : Int32) = nI 159 from rfl, stA_1 (by decide), stA_1 (by omega), stA_1 (by omega)]
      unfold upd
      have := tr_M (M := M) hk
      rw [this]
    show RSea0 (mgX7 T (stF (u1 (u1 T 13 (upd (T 13) nu v1)) 14 (upd (T 14) nu 0)) 4 (nI (nu + 1)))) (tr (blk (stF (stA (stA (stA M 1 (nI (160 + 2 * nu + 0)) v1) 1 (nI (160 + 2 * nu + 1)) 0) 1 159 (nI (nu + 1))) 6 (nI nu)) 0))
    generalize tr (blk (stF (stA (stA (stA M 1 (nI (160 + 2 * nu + 0)) v1) 1 (nI (160 + 2 * nu + 1)) 0) 1 159 (nI (nu + 1))) 6 (nI nu)) 0) = A' at hA
    have hN : ∀ k, k < 241 → k ≠ 159 → k ≠ 160 + 2 * nu + 0 → k ≠ 160 + 2 * nu + 1 → A' k = tr (blk M 0) k := fun k hk h1 h2 h3 => by
      rw [hA k hk, upd_ne h1, upd_ne h3, upd_ne h2]
    have t13 : mgX7 T (stF (u1 (u1 T 13 (upd (T 13) nu v1)) 14 (upd (T 14) nu 0)) 4 (nI (nu + 1))) 13 = upd (T 13) nu v1 := rfl
    have t14 : mgX7 T (stF (u1 (u1 T 13 (upd (T 13) nu v1)) 14 (upd (T 14) nu 0)) 4 (nI (nu + 1))) 14 = upd (T 14) nu 0 := rfl
    refine ⟨np, nf, nu + 1, nr, ⟨c1, c2, by omega, c4, d1, ?_, d3, ?_, rfl, ?_, d7, ?_⟩, RTop_c rfl rfl rfl (fun k hk => hN k (by omega) (by omega) (by omega) (by omega)) htop, RPro_c c1 c2 rfl rfl rfl rfl rfl (fun k h1 h2 => hN k (by omega) (by omega) (by omega) (by omega)) (fun k h1 h2 => hN k (by omega) (by omega) (by omega) (by omega)) hpro,
      RPer_c c2 (Nat.le_succ nu) rfl rfl rfl rfl rfl rfl (fun k hk => hN k (by omega) (by omega) (by omega) (by omega)) (fun k h1 h2 => hN k (by omega) (by omega) (by omega) (by omega)) (fun k hk => ?_) hper, RApt_c c2 (fun k h1 h2 => hN k (by omega) (by omega) (by omega) (by omega)) hapt, fun u hu => ?_, RReq_c c4 rfl rfl rfl (fun k h1 h2 => hN k h2 (by omega) (by omega) (by omega)) hreq, fun d hd => hcrw d hd⟩
    · rw [hN 5 (by omega) (by omega) (by omega) (by omega)]; exact d2
    · rw [hN 38 (by omega) (by omega) (by omega) (by omega)]; exact d4
    · rw [hA 159 (by omega), upd_eq]
    · rw [hN 180 (by omega) (by omega) (by omega) (by omega)]; exact d8
    · have e1 : A' (135 + k) = tr (blk M 0) (135 + k) := hN _ (by omega) (by omega) (by omega) (by omega)
      obtain ⟨-, -, -, ⟨b, b1, b2⟩, -⟩ := hper k hk
      show heldS A' k nu + (if bitI (A' (135 + k)) nu then A' (160 + 2 * nu) else 0) = _
      rw [e1, b1, if_neg (fun q => by
        have := (bitI_nat b (by omega)).mp q
        rw [Nat.testBit_lt_two_pow b2] at this
        cases this), Int32.add_zero]
      exact heldS_c e1 (fun u hu => hN _ (by omega) (by omega) (by omega) (by omega))
    · rw [t13, t14]
      by_cases hun : u = nu
      · subst hun
        rw [hA (160 + 2 * u + 0) (by omega), hA (160 + 2 * u + 1) (by omega), upd_eq, upd_eq, upd_ne (by omega), upd_ne (by omega), upd_eq, upd_ne (by omega), upd_eq]
        exact ⟨rfl, rfl, ⟨z, hz, z1, z6⟩, 0, rfl, by decide⟩
      · rw [hN (160 + 2 * u + 0) (by omega) (by omega) (by omega) (by omega), hN (160 + 2 * u + 1) (by omega) (by omega) (by omega) (by omega), upd_ne hun, upd_ne hun]
        exact hsub u (by omega)
  · show stF (stA (stA (stA M 1 (nI (160 + 2 * nu + 0)) v1) 1 (nI (160 + 2 * nu + 1)) 0) 1 159 (nI (nu + 1))) 6 (nI nu) 0 4 = M 0 4
    rw [stF_o (by decide), stA_ne (by decide), stA_ne (by decide), stA_ne (by decide)]
  · show stF (stA (stA (stA M 1 (nI (160 + 2 * nu + 0)) v1) 1 (nI (160 + 2 * nu + 1)) 0) 1 159 (nI (nu + 1))) 6 (nI nu) 0 5 = M 0 5
    rw [stF_o (by decide), stA_ne (by decide), stA_ne (by decide), stA_ne (by decide)]
