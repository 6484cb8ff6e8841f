/-! staff and room: both sides -/
theorem DC_c {D A A' : Nat → Int32} {np nf : Nat} (hB : ∀ k, k < nf → A' (39 + 4 * k + 0) = A (39 + 4 * k + 0) ∧ A' (39 + 4 * k + 2) = A (39 + 4 * k + 2)) (h : DC D A np nf) : DC D A' np nf := by
  refine ⟨fun p hp => ?_, fun k hk => ?_, fun i j hi hj hij => ?_⟩
  · obtain ⟨m, h1, h2, h3⟩ := h.1 p hp
    refine ⟨m, h1, h2, fun d hd => (h3 d hd).trans ⟨?_, ?_⟩⟩
    · rintro ⟨k, k1, k2, k3⟩
      exact ⟨k, k1, by rw [(hB k k1).1]; exact k2, by rw [(hB k k1).2]; exact k3⟩
    · rintro ⟨k, k1, k2, k3⟩
      rw [(hB k k1).1] at k2
      rw [(hB k k1).2] at k3
      exact ⟨k, k1, k2, k3⟩
  · rw [(hB k hk).1, (hB k hk).2]; exact h.2.1 k hk
  · rw [(hB i hi).1, (hB i hi).2, (hB j hj).1, (hB j hj).2]; exact h.2.2 i j hi hj hij
theorem dc_of {T : RM} {A : Nat → Int32} {np nf nu nr : Nat} (h : RS4 T A np nf nu nr) : DC (T 6) A np nf := by
  obtain ⟨hc, htop, hpro, hper, hapt, hsub, hreq, hcrw⟩ := h
  refine ⟨fun p hp => (hpro p hp).2.2, fun k hk => ?_, fun i j hi hj hij he => (hapt i j hi hj hij he).2⟩
  obtain ⟨-, ⟨p, p1, p2⟩, ⟨d, d1, d2⟩, -⟩ := hper k hk
  exact ⟨p, d, p1, d1, p2, d2⟩
theorem zsz_of {T : RM} {A : Nat → Int32} {np nf nu nr : Nat} (h : RS4 T A np nf nu nr) : (∀ p, p < np → A (6 + 4 * p + 0) = T 2 p) ∧ ZOk (T 2) np 9 := by
  obtain ⟨hc, htop, hpro, -⟩ := h
  refine ⟨fun p hp => (hpro p hp).1.1.symm, fun p hp => ?_⟩
  obtain ⟨⟨a1, -⟩, ⟨b1, -⟩, -⟩ := hpro p hp
  rw [a1]; exact b1
theorem zcr_of {T : RM} {A : Nat → Int32} {np nf nu nr : Nat} (h : RS4 T A np nf nu nr) : (∀ p, p < np → A (6 + 4 * p + 1) = T 3 p) ∧ ZOk (T 3) np 6 := by
  obtain ⟨hc, htop, hpro, -⟩ := h
  refine ⟨fun p hp => (hpro p hp).1.2.1.symm, fun p hp => ?_⟩
  obtain ⟨⟨-, a1, -⟩, ⟨-, b1, -⟩, -⟩ := hpro p hp
  rw [a1]; exact b1
theorem DW_none {T : RM} {cd : Int32} {p : Nat} (hp : p < 2 ^ 31) : DW T (-1) cd p = T 6 p := if_neg (zI_ne_neg hp)
theorem crewN_c {D D' C : Nat → Int32} {np d : Nat} (h : ∀ p, p < np → D p = D' p) : crewN D C np d = crewN D' C np d := sumN_congr (fun p hp => by rw [h p hp])
theorem loadN_c {D D' C : Nat → Int32} {np d : Nat} (h : ∀ p, p < np → D p = D' p) : loadN D C np d = loadN D' C np d := sumN_congr (fun p hp => by rw [h p hp])
theorem dok_c {D D' A : Nat → Int32} {np nf : Nat} (h : ∀ p, p < np → D p = D' p) (hD : DC D' A np nf) : DOk D np := fun p hp => by
  obtain ⟨m, h1, h2, _⟩ := hD.1 p hp
  exact ⟨m, (h p hp).trans h1, h2⟩
theorem staff_both {N : Nat} {T M : RM} {D : Nat → Int32} {np nf st : Nat} {c cd : Int32} (hN : 30 < N) (hnp : np ≤ 8) (hnf : nf ≤ 24) (t2 : T 0 2 = nI np) (h38 : M 1 38 = nI nf) (hD : DC D (M 1) np nf) (hDW : ∀ p, p < np → DW T c cd p = D p) (hC : (∀ p, p < np → M 1 (6 + 4 * p + 1) = T 3 p) ∧ ZOk (T 3) np 6) (hst : st ≤ 20) (h3 : M 1 3 = nI st) :
    ((∀ d, d < 30 → crewN D (T 3) np d ≤ st) ∧ F_X3_staffRefusalIf N T (nI st) c cd = some 0 ∧ F_X9_lacksStaff N M = some (0, M)) ∨ ∃ e, 1 ≤ e ∧ e ≤ 48 ∧ F_X3_staffRefusalIf N T (nI st) c cd = some (jRef 2 (nI e)) ∧ F_X9_lacksStaff N M = some (1, stF (stF M 7 2) 8 (nI e)) := by
  have hcr : ∀ d, crewN (DW T c cd) (T 3) np d = crewN D (T 3) np d := fun d => crewN_c hDW
  have hcs := c_staff (N := N) (c := c) (cd := cd) hN hnp t2 hst (dok_c hDW hD) hC.2
  simp only [hcr] at hcs
  rcases hcs with ⟨a1, a2⟩ | ⟨i, a1, a2, a3, a4⟩
  · rcases r_staff (N := N) hN hnp hnf h38 hD hC.1 hC.2 hst h3 with ⟨b1, b2⟩ | ⟨j, b1, b2, b3, b4⟩
    · exact Or.inl ⟨a1, a2, b2⟩
    · have := a1 j b1; omega
  · rcases r_staff (N := N) hN hnp hnf h38 hD hC.1 hC.2 hst h3 with ⟨b1, b2⟩ | ⟨j, b1, b2, b3, b4⟩
    · have := b1 i a1; omega
    · have hij : i = j := least_eq (P := fun x => st < crewN D (T 3) np x) (Q := fun x => st < crewN D (T 3) np x) (m := 30) (fun _ _ => Iff.rfl) a1 b1 a2 (fun x hx => by have := a3 x hx; omega) b2 (fun x hx => by have := b3 x hx; omega)
      subst hij
      have := crewN_bd (D := D) (d := i) hnp hC.2
      exact Or.inr ⟨crewN D (T 3) np i - st, by omega, by omega, a4, b4⟩
theorem room_both {N : Nat} {T M : RM} {D : Nat → Int32} {np nf rm : Nat} {c cd : Int32} (hN : 30 < N) (hnp : np ≤ 8) (hnf : nf ≤ 24) (t2 : T 0 2 = nI np) (h5 : M 1 5 = nI np) (h38 : M 1 38 = nI nf) (hD : DC D (M 1) np nf) (hDW : ∀ p, p < np → DW T c cd p = D p) (hZ : (∀ p, p < np → M 1 (6 + 4 * p + 0) = T 2 p) ∧ ZOk (T 2) np 9) (hrm : rm ≤ 99) (h4 : M 1 4 = nI rm) :
    (F_X3_roomRefusalIf N T (nI rm) c cd = some 0 ∧ F_X9_lacksRoom N M = some (0, M)) ∨ ∃ e, e < 30 ∧ F_X3_roomRefusalIf N T (nI rm) c cd = some (jRef 3 (nI e)) ∧ F_X9_lacksRoom N M = some (1, stF (stF M 7 3) 8 (nI e)) := by
  have hcr : ∀ d, loadN (DW T c cd) (T 2) np d = loadN D (T 2) np d := fun d => loadN_c hDW
  have hcs := c_room (N := N) (c := c) (cd := cd) hN hnp t2 hrm (dok_c hDW hD) hZ.2
  simp only [hcr] at hcs
  rcases hcs with ⟨a1, a2⟩ | ⟨i, a1, a2, a3, a4⟩
  · rcases r_room (N := N) hN hnp hnf h5 h38 hD hZ.1 hZ.2 hrm h4 with ⟨b1, b2⟩ | ⟨j, b1, b2, b3, b4⟩
    · exact Or.inl ⟨a2, b2⟩
    · have := a1 j b1; omega
  · rcases r_room (N := N) hN hnp hnf h5 h38 hD hZ.1 hZ.2 hrm h4 with ⟨b1, b2⟩ | ⟨j, b1, b2, b3, b4⟩
    · have := b1 i a1; omega
    · have hij : i = j := least_eq (P := fun x => rm < loadN D (T 2) np x) (Q := fun x => rm < loadN D (T 2) np x) (m := 30) (fun _ _ => Iff.rfl) a1 b1 a2 (fun x hx => by have := a3 x hx; omega) b2 (fun x hx => by have := b3 x hx; omega)
      subst hij
      exact Or.inr ⟨i, a1, a4, b4⟩
theorem z_hin0 (N : Nat) (M : RM) : F_X9_isHindered N M 0 = some (0, M) := by
  unfold F_X9_isHindered
  rw [z_ref0]
  rfl
theorem z_hin1 (N : Nat) (M : RM) : F_X9_isHindered N M 1 = some (1, stF (stF M 4 (M 0 7)) 5 (M 0 8)) := by
  unfold F_X9_isHindered
  rw [z_ref1, Option.bind_some, if_pos (show isB (1 : Int32) = true from by decide)]
/-- what was found hindering is what is told -/
theorem z_hinW (N : Nat) (M : RM) (a d : Nat) : F_X9_isHindered N (stF (stF M 7 (nI a)) 8 (nI d)) 1 = some (1, stF (stF (stF (stF M 7 (nI a)) 8 (nI d)) 4 (nI a)) 5 (nI d)) := by
  rw [z_hin1]
  have e1 : stF (stF M 7 (nI a)) 8 (nI d) 0 7 = nI a := by rw [stF_o (by decide), stF_eq]
  have e2 : stF (stF M 7 (nI a)) 8 (nI d) 0 8 = nI d := stF_eq
  rw [e1, e2]
/-- only staff, room differ -/
theorem RS4_sr {T T' : RM} {A A' : Nat → Int32} {np nf nu nr : Nat} (h : RS4 T A np nf nu nr) (h2 : ∀ x, 2 ≤ x → T' 0 x = T 0 x) (hT : ∀ r, 1 ≤ r → T' r = T r) (hA : ∀ k, k ≠ 3 → k ≠ 4 → A' k = A k) (e0 : T' 0 0 = A' 3) (e1 : T' 0 1 = A' 4) (s0 : ∃ z, A' 3 = nI z ∧ z ≤ 20) (s1 : ∃ z, A' 4 = nI z ∧ z ≤ 99) (hcr : ∀ d, d < 30 → crewN (T 6) (T 3) np d ≤ nv (T' 0 0)) : RS4 T' A' np nf nu nr := by
  obtain ⟨⟨c1, c2, c3, c4, d1, d2, d3, d4, d5, d6, d7, d8⟩, htop, hpro, hper, hapt, hsub, hreq, hcrw⟩ := h
  refine ⟨⟨c1, c2, c3, c4, (h2 2 (by omega)).trans d1, (hA 5 (by omega) (by omega)).trans d2, (h2 3 (by omega)).trans d3, (hA 38 (by omega) (by omega)).trans d4, (h2 4 (by omega)).trans d5, (hA 159 (by omega) (by omega)).trans d6, (h2 5 (by omega)).trans d7, (hA 180 (by omega) (by omega)).trans d8⟩, ⟨e0, e1, s0, s1, fun s hs => ?_⟩, RPro_c c1 c2 (hT 2 (by omega)) (hT 3 (by omega)) (hT 4 (by omega)) (hT 5 (by omega)) (hT 6 (by omega)) (fun k h1 h2 => hA k (by omega) (by omega)) (fun k h1 h2 => hA k (by omega) (by omega)) hpro, RPer_c c2 (Nat.le_refl nu) (hT 7 (by omega)) (hT 8 (by omega)) (hT 9 (by omega)) (hT 10 (by omega)) (hT 11 (by omega)) (hT 12 (by omega)) (fun k hk => hA k (by omega) (by omega)) (fun k h1 h2 => hA k (by omega) (by omega)) (fun k hk => heldS_c (hA _ (by omega) (by omega)) (fun u hu => hA _ (by omega) (by omega))) hper, RApt_c c2 (fun k h1 h2 => hA k (by omega) (by omega)) hapt, RSub_c (fun _ _ => by rw [hT 13 (by omega)]) (fun _ _ => by rw [hT 14 (by omega)]) (fun u hu => ⟨hA _ (by omega) (by omega), hA _ (by omega) (by omega)⟩) hsub, RReq_c c4 (hT 15 (by omega)) (hT 16 (by omega)) (hT 17 (by omega)) (fun k h1 h2 => hA k (by omega) (by omega)) hreq, fun d hd => ?_⟩
  · rw [hT 1 (by omega), hA s (by omega) (by omega)]; exact htop.2.2.2.2 s hs
  · rw [hT 6 (by omega), hT 3 (by omega)]; exact hcr d hd
theorem jRef_ne0 {a d : Nat} (ha1 : 1 ≤ a) (ha : a ≤ 9) (hd : d < 1000) : ¬ jRef (nI a) (nI d) = 0 := fun q => by
  have q2 := congrArg Int32.toInt q
  rw [jRef_eq ha hd, zI_negI (by omega)] at q2
  have e0 : (0 : Int32).toInt = 0 := rfl
  omega
theorem jo_setStaff : jO_setStaff RSea := by
  intro T M hr v1
  obtain ⟨np, nf, nu, nr, hS⟩ := rs_M.mp hr
  have hS' := hS
  obtain ⟨⟨c1, c2, c3, c4, d1, d2, d3, d4, d5, d6, d7, d8⟩, htop, hpro, hper, hapt, hsub, hreq, hcrw⟩ := hS'
  by_cases hv : jIn v1 1 20 = 0
  · refine ⟨(-2, T), (2, M), ?_, ?_, op_no (by decide) (Or.inr (Or.inl ⟨rfl, rfl⟩))⟩
    · unfold F_X6_changeStaff; rw [if_pos hv]
    · unfold F_X9_sets; rw [z_in, Option.bind_some, if_pos hv]
  obtain ⟨st, rfl, y1, y2⟩ := zI_btw (a := 1) (b := 20) (by decide) (by decide) (Decidable.not_not.mp (fun q => hv (jIn_0.mpr q)))
  obtain ⟨s0, hs0, hs0b⟩ := htop.2.2.1
  have h6 : T 0 0 = nI s0 := htop.1.trans hs0
  have hg : F_X9_sets 3000 M 3 (nI st) 1 20 = (F_X9_lacksStaff 3000 (stA (stF M 6 (nI s0)) 1 (nI 3) (nI st))).bind (fun r9 => (F_X9_isHindered 3000 r9.2 r9.1).bind (fun r10 => if r10.1 = 0 then some ((0 : Int32), r10.2) else some ((4 : Int32), r10.2))) := by
    unfold F_X9_sets
    rw [z_in, Option.bind_some, if_neg hv, if_pos (by decide)]
    unfold jlet
    dsimp only
    rw [if_pos (by decide), if_pos rfl, show M 1 (3 : Int32).toNatClampNeg = nI s0 from hs0]
    rfl
  have hA : stA (stF M 6 (nI s0)) 1 (nI 3) (nI st) 1 = upd (M 1) 3 (nI st) := by rw [stA_1 (by decide), stF_1]
  have hnear : Near M (stA (stF M 6 (nI s0)) 1 (nI 3) (nI st)) := near_trans (near_stF (Or.inl rfl)) (near_stA (by omega))
  have h06 : stA (stF M 6 (nI s0)) 1 (nI 3) (nI st) 0 6 = nI s0 := by rw [stA_ne (by decide), stF_eq]
  generalize stA (stF M 6 (nI s0)) 1 (nI 3) (nI st) = M5 at hg hA hnear h06
  have hN : ∀ k, k ≠ 3 → M5 1 k = M 1 k := fun k hk => by rw [hA, upd_ne hk]
  have hD : DC (T 6) (M5 1) np nf := DC_c (fun k hk => ⟨hN _ (by omega), hN _ (by omega)⟩) (dc_of hS)
  have hC := zcr_of hS
  rcases staff_both (N := 3000) (c := -1) (cd := 0) (by omega) c1 c2 d1 ((hN 38 (by omega)).trans d4) hD (fun p hp => DW_none (by omega)) ⟨fun p hp => (hN _ (by omega)).trans (hC.1 p hp), hC.2⟩ y2 (by rw [hA, upd_eq]) with ⟨a1, a2, a3⟩ | ⟨e, e1, e2, e3, e4⟩
  · refine ⟨(nI s0, stF T 0 (nI st)), (0, M5), ?_, ?_, op_ok (by decide) hnear (zI_pos (by omega)) h06 ⟨np, nf, nu, nr, RS4_sr hS (fun x hx => stF_o (by omega)) (fun r hr => stF_ne (by omega)) (fun k h3 h4 => hN k h3) ?_ ?_ ⟨st, ?_, y2⟩ ?_ (fun d hd => ?_)⟩⟩
    · unfold F_X6_changeStaff
      rw [if_neg hv, a2, Option.bind_some, if_pos rfl]
      simp only [jlet]
      rw [h6]
    · rw [hg, a3, Option.bind_some, z_hin0, Option.bind_some, if_pos rfl]
    · rw [stF_eq, hA, upd_eq]
    · rw [stF_o (by decide), hN 4 (by decide)]; exact htop.2.1
    · rw [hA, upd_eq]
    · rw [hN 4 (by decide)]; exact htop.2.2.2.1
    · rw [stF_eq, nv_nI (by omega)]; exact a1 d hd
  · refine ⟨(jRef (nI 2) (nI e), T), (4, stF (stF (stF (stF M5 7 (nI 2)) 8 (nI e)) 4 (nI 2)) 5 (nI e)), ?_, ?_, op_ref (by decide) (near_trans hnear (near_trans (near_stF (Or.inr (Or.inl rfl))) (near_stF (Or.inr (Or.inr rfl))))) (by omega) (by omega) (by omega)⟩
    · unfold F_X6_changeStaff
      rw [if_neg hv, e3, Option.bind_some, if_neg (show ¬ jRef 2 (nI e) = 0 from jRef_ne0 (a := 2) (by omega) (by omega) (by omega))]
      rfl
    · rw [hg, e4, Option.bind_some]
      show (F_X9_isHindered 3000 (stF (stF M5 7 (nI 2)) 8 (nI e)) 1).bind _ = _
      rw [z_hinW, Option.bind_some, if_neg (show ¬ (1 : Int32) = 0 by decide)]
theorem jo_setRoom : jO_setRoom RSea := by
  intro T M hr v1
  obtain ⟨np, nf, nu, nr, hS⟩ := rs_M.mp hr
  have hS' := hS
  obtain ⟨⟨c1, c2, c3, c4, d1, d2, d3, d4, d5, d6, d7, d8⟩, htop, hpro, hper, hapt, hsub, hreq, hcrw⟩ := hS'
  by_cases hv : jIn v1 0 99 = 0
  · refine ⟨(-2, T), (2, M), ?_, ?_, op_no (by decide) (Or.inr (Or.inl ⟨rfl, rfl⟩))⟩
    · unfold F_X6_changeRoom; rw [if_pos hv]
    · unfold F_X9_sets; rw [z_in, Option.bind_some, if_pos hv]
  obtain ⟨st, rfl, y1, y2⟩ := zI_btw (a := 0) (b := 99) (by decide) (by decide) (Decidable.not_not.mp (fun q => hv (jIn_0.mpr q)))
  obtain ⟨s0, hs0, hs0b⟩ := htop.2.2.2.1
  have h6 : T 0 1 = nI s0 := htop.2.1.trans hs0
  have hg : F_X9_sets 3000 M 4 (nI st) 0 99 = (F_X9_lacksRoom 3000 (stA (stF M 6 (nI s0)) 1 (nI 4) (nI st))).bind (fun r9 => (F_X9_isHindered 3000 r9.2 r9.1).bind (fun r10 => if r10.1 = 0 then some ((0 : Int32), r10.2) else some ((4 : Int32), r10.2))) := by
    unfold F_X9_sets
    rw [z_in, Option.bind_some, if_neg hv, if_pos (by decide)]
    simp only [jlet]
    rw [if_pos (by decide), if_neg (show ¬ (4 : Int32) = 3 by decide), show M 1 (4 : Int32).toNatClampNeg = nI s0 from hs0]
    rfl
  have hA : stA (stF M 6 (nI s0)) 1 (nI 4) (nI st) 1 = upd (M 1) 4 (nI st) := by rw [stA_1 (by decide), stF_1]
  have hnear : Near M (stA (stF M 6 (nI s0)) 1 (nI 4) (nI st)) := near_trans (near_stF (Or.inl rfl)) (near_stA (by omega))
  have h06 : stA (stF M 6 (nI s0)) 1 (nI 4) (nI st) 0 6 = nI s0 := by rw [stA_ne (by decide), stF_eq]
  generalize stA (stF M 6 (nI s0)) 1 (nI 4) (nI st) = M5 at hg hA hnear h06
  have hN : ∀ k, k ≠ 4 → M5 1 k = M 1 k := fun k hk => by rw [hA, upd_ne hk]
  have hD : DC (T 6) (M5 1) np nf := DC_c (fun k hk => ⟨hN _ (by omega), hN _ (by omega)⟩) (dc_of hS)
  have hZ := zsz_of hS
  rcases room_both (N := 3000) (c := -1) (cd := 0) (by omega) c1 c2 d1 ((hN 5 (by omega)).trans d2) ((hN 38 (by omega)).trans d4) hD (fun p hp => DW_none (by omega)) ⟨fun p hp => (hN _ (by omega)).trans (hZ.1 p hp), hZ.2⟩ y2 (by rw [hA, upd_eq]) with ⟨a2, a3⟩ | ⟨e, e1, e3, e4⟩
  · refine ⟨(nI s0, stF T 1 (nI st)), (0, M5), ?_, ?_, op_ok (by decide) hnear (zI_pos (by omega)) h06 ⟨np, nf, nu, nr, RS4_sr hS (fun x hx => stF_o (by omega)) (fun r hr => stF_ne (by omega)) (fun k h3 h4 => hN k h4) ?_ ?_ ?_ ⟨st, ?_, y2⟩ (fun d hd => ?_)⟩⟩
    · unfold F_X6_changeRoom
      rw [if_neg hv, a2, Option.bind_some, if_pos rfl]
      simp only [jlet]
      rw [h6]
    · rw [hg, a3, Option.bind_some, z_hin0, Option.bind_some, if_pos rfl]
    · rw [stF_o (by decide), hN 3 (by decide)]; exact htop.1
    · rw [stF_eq, hA, upd_eq]
    · rw [hN 3 (by decide)]; exact htop.2.2.1
    · rw [hA, upd_eq]
    · rw [stF_o (by decide)]; exact hcrw d hd
  · refine ⟨(jRef (nI 3) (nI e), T), (4, stF (stF (stF (stF M5 7 (nI 3)) 8 (nI e)) 4 (nI 3)) 5 (nI e)), ?_, ?_, op_ref (by decide) (near_trans hnear (near_trans (near_stF (Or.inr (Or.inl rfl))) (near_stF (Or.inr (Or.inr rfl))))) (by omega) (by omega) (by omega)⟩
    · unfold F_X6_changeRoom
      rw [if_neg hv, e3, Option.bind_some, if_neg (show ¬ jRef 3 (nI e) = 0 from jRef_ne0 (a := 3) (by omega) (by omega) (by omega))]
      rfl
    · rw [hg, e4, Option.bind_some]
      show (F_X9_isHindered 3000 (stF (stF M5 7 (nI 3)) 8 (nI e)) 1).bind _ = _
      rw [z_hinW, Option.bind_some, if_neg (show ¬ (1 : Int32) = 0 by decide)]
/-! load and peak -/
theorem rel_rs {S : CS} {M : RM} (h : Rel RSea S M) : RSea0 (S 0) (M 1) := rs_M.mp h.1
theorem je_load : jE_load (Rel RSea) := by
  intro S M v1 h
  obtain ⟨np, nf, nu, nr, hS⟩ := rel_rs h
  have hS' := hS
  obtain ⟨⟨c1, c2, c3, c4, d1, d2, d3, d4, d5, d6, d7, d8⟩, -⟩ := hS'
  by_cases hv : jIn v1 0 29 = 0
  · refine ⟨3000, (2, 0, S), 3000, (0, stF M 0 1), ?_, ?_, Or.inr rfl, ?_, fun q => absurd (show (2 : Int32) = 0 from q) (by decide), rel_thr RSea_loc h 1⟩
    · unfold F_X8_load; rw [hv, if_neg (by decide)]; rfl
    · unfold F_X9_load D_X9_load_13
      rw [z_isDate, Option.bind_some, if_pos hv]
      simp only [jlet]
      rw [stF_eq, if_neg (by decide)]
    · show stF M 0 1 0 0 = hk_load 2
      rw [stF_eq]; rfl
  obtain ⟨d, rfl, y1, y2⟩ := zI_btw (a := 0) (b := 29) (by decide) (by decide) (Decidable.not_not.mp (fun q => hv (jIn_0.mpr q)))
  have hj : jIn (nI d) 0 29 = 1 := by
    rw [jIn_eq, if_pos (Decidable.not_not.mp (fun q => hv (jIn_0.mpr q)))]
  have hZ := zsz_of hS
  have e1 : F_X3_loadIf 3000 (S 0) (nI d) (-1) 0 = some (nI (loadN (S 0 6) (S 0 2) np d)) := by
    rw [c_loadIf (by omega) c1 d1 (by omega) (dok_c (fun p hp => DW_none (by omega)) (dc_of hS)) hZ.2, loadN_c (fun p hp => DW_none (by omega))]
  have e2 : F_X9_loadOf 3000 (stF M 0 0) (nI d) = some (nI (loadN (S 0 6) (S 0 2) np d)) := r_loadOf (by omega) c1 c2 (by rw [stF_1]; exact d2) (by rw [stF_1]; exact d4) (by rw [stF_1]; exact dc_of hS) (by rw [stF_1]; exact hZ.1) hZ.2 (by omega)
  refine ⟨3000, (0, nI (loadN (S 0 6) (S 0 2) np d), S), 3000, (nI (loadN (S 0 6) (S 0 2) np d), stF M 0 0), ?_, ?_, Or.inl rfl, ?_, fun _ => rfl, rel_thr RSea_loc h 0⟩
  · unfold F_X8_load; rw [hj, if_pos (by decide), e1, Option.bind_some]
  · unfold F_X9_load D_X9_load_13
    rw [z_isDate, Option.bind_some, if_neg hv]
    simp only [jlet]
    rw [stF_eq, if_pos rfl, e2, Option.bind_some]
  · show stF M 0 0 0 0 = hk_load 0
    rw [stF_eq]; rfl
theorem je_peak : jE_peak (Rel RSea) := by
  intro S M h
  obtain ⟨np, nf, nu, nr, hS⟩ := rel_rs h
  have hS' := hS
  obtain ⟨⟨c1, c2, c3, c4, d1, d2, d3, d4, d5, d6, d7, d8⟩, -⟩ := hS'
  have hZ := zsz_of hS
  have e1 : F_X3_peakIf 3000 (S 0) (-1) 0 = some (nI (maxN (loadN (S 0 6) (S 0 2) np) 30)) := by
    rw [c_peakIf (by omega) c1 d1 (dok_c (fun p hp => DW_none (by omega)) (dc_of hS)) hZ.2, maxN_congr (fun k _ => loadN_c (fun p hp => DW_none (by omega)))]
  have e2 : F_X9_peakNow 3000 (stF M 0 0) = some (nI (maxN (loadN (S 0 6) (S 0 2) np) 30)) := r_peak (by omega) c1 c2 (by rw [stF_1]; exact d2) (by rw [stF_1]; exact d4) (by rw [stF_1]; exact dc_of hS) (by rw [stF_1]; exact hZ.1) hZ.2
  refine ⟨3000, _, 3000, (nI (maxN (loadN (S 0 6) (S 0 2) np) 30), stF M 0 0), ?_, ?_, rfl, rel_thr RSea_loc h 0⟩
  · unfold F_X8_peak; rw [e1, Option.bind_some]
  · unfold F_X9_peak
    simp only [jlet]
    rw [e2, Option.bind_some]
