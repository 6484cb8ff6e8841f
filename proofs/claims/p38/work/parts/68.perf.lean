/-! a performance more -/
theorem m_perf {N : Nat} {T : RM} {np nf nu nr P Sg d : Nat} (hN : 30 < N) (I : Inv T np nf nu nr) (hf : nf < 24) (hP : P < np) (hS : Sg < 3) (hd : d < 30) : MRes T (F_X6_makePerformance N T (nI P) (nI Sg) (nI d)) (fun T' => Inv T' np nf nu nr ∨ Inv T' np (nf + 1) nu nr) := by
  have I' := I
  obtain ⟨⟨i1, i2, i3, i4⟩, ⟨s0, s1, s2, s3, s4, s5, s6⟩, ⟨p2, p3, p4, p5, p6⟩, ⟨q7, q8, q9, q10, q11, q12⟩, ⟨u13, u14⟩, ⟨r15, r16, r17⟩, ibit, ihld, iapt, ipri, icrw, ilod⟩ := I
  have e6 := p6 P hP
  have j2 : jIn (nI Sg) 0 2 = 1 := jIn_nat (l := 0) (h := 2) (Nat.zero_le _) (by omega) (by decide)
  have j3 : jIn (nI d) 0 29 = 1 := jIn_nat (l := 0) (h := 29) (Nat.zero_le _) (by omega) (by decide)
  have hdw : F_X6_datesWith N T (-1) (nI P) (nI d) = some (nI (nv (T 6 P) ||| 2 ^ d)) := by
    unfold F_X6_datesWith
    rw [z_has2, Option.bind_some, jIn_none, if_pos rfl, zI_rg (by omega) (by omega), nI_shl d (by omega), e6.1, nI_or, ← e6.1]
  have hm : nv (T 6 P) ||| 2 ^ d < 2 ^ 30 := or_lt e6.2 (two_lt hd)
  generalize hm' : nv (T 6 P) ||| 2 ^ d = m' at hdw hm
  have hD : DOk (DW T (nI P) (nI m')) np := by
    intro p hp
    unfold DW
    by_cases h : nI p = nI P
    · rw [if_pos h]; exact ⟨m', rfl, hm⟩
    · rw [if_neg h]; exact ok_D p6 p hp
  have hrun0 : F_X6_makePerformance N T (nI P) (nI Sg) (nI d) = (F_X6_placingRefusal N T (-1) (nI P) (nI Sg) (nI d)).bind (fun r4 => (if r4 = 0 then ((F_X6_datesWith N T (-1) (nI P) (nI d)).bind (fun r5 => (jlet (u1 T 6 (rs 8 (T 6) (nI P) r5)) (fun M7 => ((F_X2_add N M7 (nI P) (nI Sg) (nI d)).bind (fun r8 => (jlet (mgX2 M7 r8.2) (fun M9 => (some (r8.1, M9)))))))))) else (some (r4, T)))) := by
    unfold F_X6_makePerformance
    rw [z_has3, Option.bind_some, s2, jIn_idx hP (by omega), if_neg (show ¬ (1 : Int32) = 0 by decide), j2, if_neg (show ¬ (1 : Int32) = 0 by decide), j3, if_neg (show ¬ (1 : Int32) = 0 by decide), s3, if_pos (show nI nf < 24 from (zI_lt (b := 24) (by omega) (by decide)).mpr hf)]
  rcases c_findOther (N := N) (mv := -1) (a := nI P) (b := nI Sg) (c := nI d) (by omega) i2 s3 with ⟨x1, x2⟩ | ⟨i, x1, x2, x3, x4⟩
  · have hpl : F_X6_placingRefusal N T (-1) (nI P) (nI Sg) (nI d) = (F_X3_staffRefusalIf N T (nI 6) (nI P) (nI m')).bind (fun r3 => if r3 = 0 then ((F_X3_roomRefusalIf N T (nI 20) (nI P) (nI m')).bind (fun r4 => some r4)) else some r3) := by
      unfold F_X6_placingRefusal
      rw [x2, Option.bind_some, if_pos rfl, hdw, Option.bind_some, s0, s1]
    have hcb : ∀ e, crewN (DW T (nI P) (nI m')) (T 3) np e ≤ 48 := fun e => crewN_bd i1 (ok_Z (b := 6) p3)
    rcases c_staff (N := N) (T := T) (st := 6) (c := nI P) (cd := nI m') hN i1 s2 (by decide) hD (ok_Z (b := 6) p3) with ⟨a1, a2⟩ | ⟨e, a1, a2, a3, a4⟩
    · rcases c_room (N := N) (T := T) (rm := 20) (c := nI P) (cd := nI m') hN i1 s2 (by decide) hD (ok_Z (b := 9) p2) with ⟨b1, b2⟩ | ⟨e, b1, b2, b3, b4⟩
      · have T7 : u1 T 6 (upd (T 6) P (nI m')) 0 3 = nI nf := s3
        have hrun : F_X6_makePerformance N T (nI P) (nI Sg) (nI d) = some (nI nf, mgX2 (u1 T 6 (upd (T 6) P (nI m'))) (stF (u1 (u1 (u1 (u1 (u1 (u1 (u1 T 6 (upd (T 6) P (nI m'))) 7 (upd (T 7) nf (nI P))) 8 (upd (T 8) nf (nI Sg))) 9 (upd (T 9) nf (nI d))) 10 (upd (T 10) nf (nI 0))) 11 (upd (T 11) nf (nI 0))) 12 (upd (T 12) nf (nI 0))) 3 (nI (nf + 1)))) := by
          rw [hrun0, hpl, a2, Option.bind_some, if_pos rfl, b2, Option.bind_some, Option.bind_some, if_pos rfl, hdw, Option.bind_some]
          simp only [jlet]
          rw [zI_rs (by omega) (by omega), z_add2 hf T7, Option.bind_some]
          rfl
        refine mres_ok (by omega) hrun (Or.inr ?_)
        generalize hT : mgX2 (u1 T 6 (upd (T 6) P (nI m'))) (stF (u1 (u1 (u1 (u1 (u1 (u1 (u1 T 6 (upd (T 6) P (nI m'))) 7 (upd (T 7) nf (nI P))) 8 (upd (T 8) nf (nI Sg))) 9 (upd (T 9) nf (nI d))) 10 (upd (T 10) nf (nI 0))) 11 (upd (T 11) nf (nI 0))) 12 (upd (T 12) nf (nI 0))) 3 (nI (nf + 1))) = T'
        have g0 : ∀ x, x ≠ 3 → T' 0 x = T 0 x := fun x hx => by
          rw [← hT]
          show cond (Nat.beq x 3) _ (T 0 x) = T 0 x
          exact cond0 hx _ _
        have g3' : T' 0 3 = nI (nf + 1) := by rw [← hT]; rfl
        have g6 : T' 6 = upd (T 6) P (nI m') := by rw [← hT]; rfl
        have g7 : T' 7 = upd (T 7) nf (nI P) := by rw [← hT]; rfl
        have g8 : T' 8 = upd (T 8) nf (nI Sg) := by rw [← hT]; rfl
        have g9 : T' 9 = upd (T 9) nf (nI d) := by rw [← hT]; rfl
        have g10 : T' 10 = upd (T 10) nf (nI 0) := by rw [← hT]; rfl
        have g11 : T' 11 = upd (T 11) nf (nI 0) := by rw [← hT]; rfl
        have g12 : T' 12 = upd (T 12) nf (nI 0) := by rw [← hT]; rfl
        have gr : T' 1 = T 1 ∧ T' 2 = T 2 ∧ T' 3 = T 3 ∧ T' 4 = T 4 ∧ T' 5 = T 5 ∧ T' 13 = T 13 ∧ T' 14 = T 14 ∧ T' 15 = T 15 ∧ T' 16 = T 16 ∧ T' 17 = T 17 := by
          rw [← hT]; exact ⟨rfl, rfl, rfl, rfl, rfl, rfl, rfl, rfl, rfl, rfl⟩
        obtain ⟨g1, g2, g3, g4, g5, g13, g14, g15, g16, g17⟩ := gr
        have hDW : ∀ p, p < np → upd (T 6) P (nI m') p = DW T (nI P) (nI m') p := fun p hp => DW_upd (by omega) (by omega)
        unfold Inv SSca SPro SPer SSub SReq SBit SHld hldN SApt SPri SCrw SLod
        rw [g0 0 (by decide), g0 1 (by decide), g0 2 (by decide), g3', g0 4 (by decide), g0 5 (by decide), g1, g2, g3, g4, g5, g6, g7, g8, g9, g10, g11, g12, g13, g14, g15, g16, g17]
        refine ⟨by unfold SCnt; omega, ⟨s0, s1, s2, rfl, s4, s5, s6⟩, ⟨p2, p3, p4, p5, ok_set p6 hm (by decide)⟩, ⟨ok_app q7 hP (by omega), ok_app q8 hS (by decide), ok_app q9 hd (by decide), ok_app q10 (by decide) (by decide), ok_app q11 (by decide) (by decide), ok_app q12 (Nat.two_pow_pos nu) (Nat.le_trans (Nat.pow_le_pow_right (by decide) i3) (by decide))⟩, ⟨u13, u14⟩, ⟨ok_up r15 (by omega), r16, r17⟩, fun p hp e he => ?_, fun k hk => ?_, fun i j hi hj hij he => ?_, ipri, fun e he => ?_, fun e he => ?_⟩
        · have hex : (∃ k, k < nf + 1 ∧ nv (upd (T 7) nf (nI P) k) = p ∧ nv (upd (T 9) nf (nI d) k) = e) ↔ (∃ k, k < nf ∧ nv (T 7 k) = p ∧ nv (T 9 k) = e) ∨ (P = p ∧ d = e) := by
            constructor
            · rintro ⟨k, k1, k2, k3⟩
              by_cases h : k = nf
              · subst h
                rw [upd_eq, nv_nI (by omega)] at k2
                rw [upd_eq, nv_nI (by omega)] at k3
                exact Or.inr ⟨k2, k3⟩
              · rw [upd_ne h] at k2 k3
                exact Or.inl ⟨k, by omega, k2, k3⟩
            · rintro (⟨k, k1, k2, k3⟩ | ⟨k2, k3⟩)
              · exact ⟨k, by omega, by rw [upd_ne (by omega)]; exact k2, by rw [upd_ne (by omega)]; exact k3⟩
              · exact ⟨nf, by omega, by rw [upd_eq, nv_nI (by omega)]; exact k2, by rw [upd_eq, nv_nI (by omega)]; exact k3⟩
          rw [hex, ← ibit p hp e he]
          by_cases h : p = P
          · subst h
            rw [upd_eq, nv_nI (by omega), ← hm', Nat.testBit_or, Nat.testBit_two_pow, Bool.or_eq_true, decide_eq_true_iff]
            exact ⟨fun h => h.imp id (fun h => ⟨rfl, h⟩), fun h => h.imp id (fun h => h.2)⟩
          · rw [upd_ne h]
            exact ⟨Or.inl, fun h2 => h2.elim id (fun h3 => absurd h3.1.symm h)⟩
        · by_cases h : k = nf
          · subst h
            rw [upd_eq, upd_eq, upd_eq, upd_eq, nv_nI (by decide), nv_nI (by omega)]
            refine ⟨?_, by omega⟩
            rw [sumN_congr (g := fun _ => 0) (fun u hu => by rw [Nat.zero_testBit, if_neg (by decide)]), sumN_zero]
          · rw [upd_ne h, upd_ne h, upd_ne h, upd_ne h]
            exact ihld k (by omega)
        · by_cases hin : i = nf
          · have hjn : ¬ j = nf := fun e => hij (hin.trans e.symm)
            subst hin
            rw [upd_eq, upd_ne hjn, nv_nI (by omega)] at he
            rw [upd_eq, upd_eq, upd_ne hjn, upd_ne hjn, nv_nI (by omega), nv_nI (by omega)]
            have hx := x1 j (by omega)
            have t9 : T 9 j = nI d := by rw [(q9 j (by omega)).1, ← he]
            refine ⟨fun e => hx ⟨zI_ne_neg (by omega), Or.inl ?_, t9⟩, fun e => hx ⟨zI_ne_neg (by omega), Or.inr ?_, t9⟩⟩
            · rw [(q8 j (by omega)).1, ← e]
            · rw [(q7 j (by omega)).1, ← e]
          · by_cases hjn : j = nf
            · subst hjn
              rw [upd_eq, upd_ne hin, nv_nI (by omega)] at he
              rw [upd_eq, upd_eq, upd_ne hin, upd_ne hin, nv_nI (by omega), nv_nI (by omega)]
              have hx := x1 i (by omega)
              have t9 : T 9 i = nI d := by rw [(q9 i (by omega)).1, he]
              refine ⟨fun e => hx ⟨zI_ne_neg (by omega), Or.inl ?_, t9⟩, fun e => hx ⟨zI_ne_neg (by omega), Or.inr ?_, t9⟩⟩
              · rw [(q8 i (by omega)).1, e]
              · rw [(q7 i (by omega)).1, e]
            · rw [upd_ne hin, upd_ne hjn] at he
              rw [upd_ne hin, upd_ne hjn, upd_ne hin, upd_ne hjn]
              exact iapt i j (by omega) (by omega) hij he
        · rw [crewN_c hDW]; exact a1 e he
        · rw [loadN_c hDW]; exact b1 e he
      · refine mres_no (a := 3) (d := e) (by decide) (by decide) (by omega) ?_ (Or.inl I')
        rw [hrun0, hpl, a2, Option.bind_some, if_pos rfl, b4, Option.bind_some, Option.bind_some, if_neg (show ¬ jRef 3 (nI e) = 0 from jRef_ne0 (a := 3) (by decide) (by decide) (by omega))]
        rfl
    · refine mres_no (a := 2) (d := crewN (DW T (nI P) (nI m')) (T 3) np e - 6) (by decide) (by decide) (by have := hcb e; omega) ?_ (Or.inl I')
      have hz : ¬ jRef 2 (nI (crewN (DW T (nI P) (nI m')) (T 3) np e - 6)) = 0 := jRef_ne0 (a := 2) (by decide) (by decide) (by have := hcb e; omega)
      rw [hrun0, hpl, a4, Option.bind_some, if_neg hz, Option.bind_some, if_neg hz]
      rfl
  · refine mres_no (a := 1) (d := i) (by decide) (by decide) (by omega) ?_ (Or.inl I')
    rw [hrun0]
    unfold F_X6_placingRefusal
    rw [x4, Option.bind_some, if_neg (show ¬ nI i = -1 from zI_ne_neg (by omega)), Option.bind_some, if_neg (show ¬ jRef 1 (nI i) = 0 from jRef_ne0 (a := 1) (by decide) (by decide) (by omega))]
    rfl
