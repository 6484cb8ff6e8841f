/-! a production more, a subscription more -/
theorem jIn_nat {x l h : Nat} (h1 : l ≤ x) (h2 : x ≤ h) (hb : h < 2 ^ 31) : jIn (nI x) (nI l) (nI h) = 1 := by
  rw [jIn_eq, if_pos ⟨ile_t h1 (by omega), ile_t h2 hb⟩]
theorem crewN_app {D C : Nat → Int32} {np d : Nat} {c : Int32} : crewN (upd D np (nI 0)) (upd C np c) (np + 1) d = crewN D C np d := by
  show sumN _ np + (if (nv (upd D np (nI 0) np)).testBit d = true then nv (upd C np c np) else 0) = _
  rw [upd_eq, nv_nI (by decide), Nat.zero_testBit, if_neg (by decide), Nat.add_zero]
  exact sumN_congr (fun p hp => by rw [upd_ne (by omega), upd_ne (by omega)])
theorem stN_0 (d : Nat) : stN 0 d = false := by
  unfold stN
  rw [Nat.zero_mod]
  rfl
theorem loadN_app {D Z : Nat → Int32} {np d : Nat} {z : Int32} : loadN (upd D np (nI 0)) (upd Z np z) (np + 1) d = loadN D Z np d := by
  show sumN _ np + (if stN (nv (upd D np (nI 0) np)) d = true then nv (upd Z np z np) else 0) = _
  rw [upd_eq, nv_nI (by decide), stN_0, if_neg (by decide), Nat.add_zero]
  exact sumN_congr (fun p hp => by rw [upd_ne (by omega), upd_ne (by omega)])
theorem z_add3 {N : Nat} {T : RM} {np : Nat} {a b c d : Int32} (h : np < 8) (d1 : T 0 2 = nI np) : F_X3_add N T a b c d = some (nI np, stF (u1 (u1 (u1 (u1 (u1 T 2 (upd (T 2) np a)) 3 (upd (T 3) np b)) 4 (upd (T 4) np c)) 5 (upd (T 5) np d)) 6 (upd (T 6) np (nI 0))) 2 (nI (np + 1))) := by
  have q : ∀ (f : Nat → Int32) (v : Int32), rs 8 f (nI np) v = upd f np v := fun f v => zI_rs h (by omega)
  unfold F_X3_add
  simp only [jlet]
  rw [d1]
  simp only [q]
  show some (nI np, stF _ 2 (T 0 2 + 1)) = _
  rw [d1, zI_succ]
  rfl
theorem cond0 {α : Type} {x k : Nat} (h : x ≠ k) (a b : α) : cond (Nat.beq x k) a b = b := by
  have hb : Nat.beq x k = false := by
    cases hb : Nat.beq x k with
    | false => rfl
    | true => exact absurd (Nat.eq_of_beq_eq_true hb) h
  rw [hb]
  rfl
theorem m_addP {N : Nat} {T : RM} {np nf nu nr a b c d : Nat} (I : Inv T np nf nu nr) (hp : np < 8) (ha : 1 ≤ a ∧ a ≤ 9) (hb : 1 ≤ b ∧ b ≤ 6) (hc : 1 ≤ c ∧ c ≤ 50) (hd : d ≤ 100) : ∃ T', F_X6_makeProduction N T (nI a) (nI b) (nI c) (nI d) = some (nI np, T') ∧ Inv T' (np + 1) nf nu nr := by
  obtain ⟨i1, ⟨s0, s1, s2, s3, s4, s5, s6⟩, ⟨p2, p3, p4, p5, p6⟩, ⟨q7, q8, q9, q10, q11, q12⟩, ⟨u13, u14⟩, ⟨r15, r16, r17⟩, ibit, ihld, iapt, ipri, icrw, ilod⟩ := I
  have j1 : jIn (nI a) 1 9 = 1 := jIn_nat (l := 1) (h := 9) ha.1 ha.2 (by decide)
  have j2 : jIn (nI b) 1 6 = 1 := jIn_nat (l := 1) (h := 6) hb.1 hb.2 (by decide)
  have j3 : jIn (nI c) 1 50 = 1 := jIn_nat (l := 1) (h := 50) hc.1 hc.2 (by decide)
  have j4 : jIn (nI d) 0 100 = 1 := jIn_nat (l := 0) (h := 100) (Nat.zero_le _) hd (by decide)
  have hrun : F_X6_makeProduction N T (nI a) (nI b) (nI c) (nI d) = some (nI np, mgX3 T (stF (u1 (u1 (u1 (u1 (u1 T 2 (upd (T 2) np (nI a))) 3 (upd (T 3) np (nI b))) 4 (upd (T 4) np (nI c))) 5 (upd (T 5) np (nI d))) 6 (upd (T 6) np (nI 0))) 2 (nI (np + 1)))) := by
    unfold F_X6_makeProduction
    rw [j1, j2, j3, j4, if_neg (show ¬ (1 : Int32) = 0 by decide), if_neg (show ¬ (1 : Int32) = 0 by decide), if_neg (show ¬ (1 : Int32) = 0 by decide), if_neg (show ¬ (1 : Int32) = 0 by decide)]
    unfold D_X6_makeProduction_46
    rw [if_neg (show ¬ (1 : Int32) = 0 by decide), s2, if_neg (show ¬ (8 : Int32) ≤ nI np from ile_f (a := 8) hp (by decide)), z_add3 hp s2, Option.bind_some]
    rfl
  refine ⟨_, hrun, ?_⟩
  generalize hT : mgX3 T (stF (u1 (u1 (u1 (u1 (u1 T 2 (upd (T 2) np (nI a))) 3 (upd (T 3) np (nI b))) 4 (upd (T 4) np (nI c))) 5 (upd (T 5) np (nI d))) 6 (upd (T 6) np (nI 0))) 2 (nI (np + 1))) = T'
  have g0 : ∀ x, x ≠ 2 → T' 0 x = T 0 x := fun x hx => by
    rw [← hT]
    show cond (Nat.beq x 2) _ (T 0 x) = T 0 x
    exact cond0 hx _ _
  have g2' : T' 0 2 = nI (np + 1) := by rw [← hT]; rfl
  have g2 : T' 2 = upd (T 2) np (nI a) := by rw [← hT]; rfl
  have g3 : T' 3 = upd (T 3) np (nI b) := by rw [← hT]; rfl
  have g4 : T' 4 = upd (T 4) np (nI c) := by rw [← hT]; rfl
  have g5 : T' 5 = upd (T 5) np (nI d) := by rw [← hT]; rfl
  have g6 : T' 6 = upd (T 6) np (nI 0) := by rw [← hT]; rfl
  have gr : T' 1 = T 1 ∧ T' 7 = T 7 ∧ T' 8 = T 8 ∧ T' 9 = T 9 ∧ T' 10 = T 10 ∧ T' 11 = T 11 ∧ T' 12 = T 12 ∧ T' 13 = T 13 ∧ T' 14 = T 14 ∧ T' 15 = T 15 ∧ T' 16 = T 16 ∧ T' 17 = T 17 := by
    rw [← hT]; exact ⟨rfl, rfl, rfl, rfl, rfl, rfl, rfl, rfl, rfl, rfl, rfl, rfl⟩
  obtain ⟨g1, g7, g8, g9, g10, g11, g12, g13, g14, g15, g16, g17⟩ := gr
  unfold Inv SSca SPro SPer SSub SReq SBit SHld hldN SApt SPri SCrw SLod
  rw [g0 0 (by decide), g0 1 (by decide), g2', g0 3 (by decide), g0 4 (by decide), g0 5 (by decide), g1, g2, g3, g4, g5, g6, g7, g8, g9, g10, g11, g12, g13, g14, g15, g16, g17]
  refine ⟨by unfold SCnt at i1 ⊢; omega, ⟨s0, s1, rfl, s3, s4, s5, s6⟩, ⟨ok_app p2 (by omega) (by decide), ok_app p3 (by omega) (by decide), ok_app p4 (by omega) (by decide), ok_app p5 (by omega) (by decide), ok_app p6 (by decide) (by decide)⟩, ⟨ok_up q7 (by omega), q8, q9, q10, q11, q12⟩, ⟨u13, u14⟩, ⟨r15, r16, r17⟩, fun p hp' e he => ?_, ihld, iapt, ipri, fun e he => ?_, fun e he => ?_⟩
  · by_cases h : p = np
    · subst h
      rw [upd_eq, nv_nI (by decide), Nat.zero_testBit]
      refine ⟨fun h => (by cases h), ?_⟩
      rintro ⟨k, k1, k2, -⟩
      have := (q7 k k1).2
      omega
    · rw [upd_ne h]
      exact ibit p (by omega) e he
  · rw [crewN_app]; exact icrw e he
  · rw [loadN_app]; exact ilod e he
theorem z_add7 {N : Nat} {T : RM} {nu : Nat} {a : Int32} (h : nu < 10) (d1 : T 0 4 = nI nu) : F_X7_add N T a = some (nI nu, stF (u1 (u1 T 13 (upd (T 13) nu a)) 14 (upd (T 14) nu (nI 0))) 4 (nI (nu + 1))) := by
  have q : ∀ (f : Nat → Int32) (v : Int32), rs 10 f (nI nu) v = upd f nu v := fun f v => zI_rs h (by omega)
  unfold F_X7_add
  simp only [jlet]
  rw [d1]
  simp only [q]
  show some (nI nu, stF _ 4 (T 0 4 + 1)) = _
  rw [d1, zI_succ]
  rfl
theorem m_subs {N : Nat} {T : RM} {np nf nu nr a : Nat} (I : Inv T np nf nu nr) (hp : nu < 10) (ha : 1 ≤ a ∧ a ≤ 6) : ∃ T', F_X6_makeSubscription N T (nI a) = some (nI nu, T') ∧ Inv T' np nf (nu + 1) nr := by
  obtain ⟨i1, ⟨s0, s1, s2, s3, s4, s5, s6⟩, ⟨p2, p3, p4, p5, p6⟩, ⟨q7, q8, q9, q10, q11, q12⟩, ⟨u13, u14⟩, ⟨r15, r16, r17⟩, ibit, ihld, iapt, ipri, icrw, ilod⟩ := I
  have j1 : jIn (nI a) 1 6 = 1 := jIn_nat (l := 1) (h := 6) ha.1 ha.2 (by decide)
  have hrun : F_X6_makeSubscription N T (nI a) = some (nI nu, mgX7 T (stF (u1 (u1 T 13 (upd (T 13) nu (nI a))) 14 (upd (T 14) nu (nI 0))) 4 (nI (nu + 1)))) := by
    unfold F_X6_makeSubscription
    rw [j1, if_neg (show ¬ (1 : Int32) = 0 by decide), s4, if_neg (show ¬ (10 : Int32) ≤ nI nu from ile_f (a := 10) hp (by decide)), z_add7 hp s4, Option.bind_some]
    rfl
  refine ⟨_, hrun, ?_⟩
  generalize hT : mgX7 T (stF (u1 (u1 T 13 (upd (T 13) nu (nI a))) 14 (upd (T 14) nu (nI 0))) 4 (nI (nu + 1))) = T'
  have g0 : ∀ x, x ≠ 4 → T' 0 x = T 0 x := fun x hx => by
    rw [← hT]
    show cond (Nat.beq x 4) _ (T 0 x) = T 0 x
    exact cond0 hx _ _
  have g4' : T' 0 4 = nI (nu + 1) := by rw [← hT]; rfl
  have g13 : T' 13 = upd (T 13) nu (nI a) := by rw [← hT]; rfl
  have g14 : T' 14 = upd (T 14) nu (nI 0) := by rw [← hT]; rfl
  have gr : T' 1 = T 1 ∧ T' 2 = T 2 ∧ T' 3 = T 3 ∧ T' 4 = T 4 ∧ T' 5 = T 5 ∧ T' 6 = T 6 ∧ T' 7 = T 7 ∧ T' 8 = T 8 ∧ T' 9 = T 9 ∧ T' 10 = T 10 ∧ T' 11 = T 11 ∧ T' 12 = T 12 ∧ T' 15 = T 15 ∧ T' 16 = T 16 ∧ T' 17 = T 17 := by
    rw [← hT]; exact ⟨rfl, rfl, rfl, rfl, rfl, rfl, rfl, rfl, rfl, rfl, rfl, rfl, rfl, rfl, rfl⟩
  obtain ⟨g1, g2, g3, g4, g5, g6, g7, g8, g9, g10, g11, g12, g15, g16, g17⟩ := gr
  unfold Inv SSca SPro SPer SSub SReq SBit SHld SApt SPri SCrw SLod
  rw [g0 0 (by decide), g0 1 (by decide), g0 2 (by decide), g0 3 (by decide), g4', g0 5 (by decide), g1, g2, g3, g4, g5, g6, g7, g8, g9, g10, g11, g12, g13, g14, g15, g16, g17]
  refine ⟨by unfold SCnt at i1 ⊢; omega, ⟨s0, s1, s2, s3, rfl, s5, s6⟩, ⟨p2, p3, p4, p5, p6⟩, ⟨q7, q8, q9, q10, q11, ok_up q12 (Nat.pow_le_pow_right (by decide) (by omega))⟩, ⟨ok_app u13 (by omega) (by decide), ok_app u14 (by omega) (by decide)⟩, ⟨r15, r16, r17⟩, ibit, fun k hk => ?_, iapt, ipri, icrw, ilod⟩
  obtain ⟨h1, h2⟩ := ihld k hk
  refine ⟨h1.trans ?_, h2⟩
  unfold hldN
  rw [g12, g13]
  show _ = sumN _ nu + (if (nv (T 12 k)).testBit nu = true then _ else 0)
  rw [Nat.testBit_lt_two_pow (q12 k hk).2, if_neg (by decide), Nat.add_zero]
  exact sumN_congr (fun u hu => by rw [upd_ne (by omega)])
