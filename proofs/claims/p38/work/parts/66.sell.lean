/-! seats sold, seats held -/
def MRes (T : RM) (o : Option (Int32 × RM)) (P : RM → Prop) : Prop := ∃ (v a d : Nat) (T' : RM), P T' ∧ ((v < 2 ^ 31 ∧ o = some (nI v, T')) ∨ (1 ≤ a ∧ a ≤ 9 ∧ d < 1000 ∧ T' = T ∧ o = some (jRef (nI a) (nI d), T)))
theorem mres_cw {N : Nat} {S : CS} {f : RM → Option (Int32 × RM)} {P : RM → Prop} (h : MRes (S 0) (f (S 0)) P) : ∃ r, cW N S f = some r ∧ hpB N r = true ∧ P (r.2.2 0) := by
  obtain ⟨v, a, d, T', hP, h⟩ := h
  obtain ⟨r, h1, h2, h3⟩ := cw_hp (N := N) h
  exact ⟨r, h1, h2, by rw [h3]; exact hP⟩
theorem mres_ok {T T' : RM} {o : Option (Int32 × RM)} {P : RM → Prop} {v : Nat} (hv : v < 2 ^ 31) (h : o = some (nI v, T')) (hP : P T') : MRes T o P := ⟨v, 0, 0, T', hP, Or.inl ⟨hv, h⟩⟩
theorem mres_no {T : RM} {o : Option (Int32 × RM)} {P : RM → Prop} {a d : Nat} (h1 : 1 ≤ a) (h9 : a ≤ 9) (hd : d < 1000) (h : o = some (jRef (nI a) (nI d), T)) (hP : P T) : MRes T o P := ⟨0, a, d, T, hP, Or.inr ⟨h1, h9, hd, rfl, h⟩⟩
/-- the free seats of a performance -/
def freN (T : RM) (k : Nat) : Nat := 40 + 20 * nv (T 8 k) - (nv (T 10 k) + nv (T 11 k))
theorem c_seatsAt {N : Nat} {T : RM} {np nf nu nr k c : Nat} (I : Inv T np nf nu nr) (hk : k < nf) (hc : c < 3) : F_X6_seatsAt N T (nI k) (nI c) = some (nI (if c = 0 then nv (T 10 k) else if c = 1 then nv (T 11 k) else freN T k)) := by
  obtain ⟨⟨i1, i2, i3, i4⟩, ⟨s0, s1, s2, s3, s4, s5, s6⟩, -, ⟨q7, q8, q9, q10, q11, q12⟩, -, -, -, ihld, -⟩ := I
  have e8 := q8 k hk
  have e10 := q10 k hk
  have e11 := q11 k hk
  have hf := (ihld k hk).2
  unfold F_X6_seatsAt
  rcases (show c = 0 ∨ c = 1 ∨ c = 2 by omega) with rfl | rfl | rfl
  · rw [if_pos (show nI 0 = 0 from rfl), if_pos rfl, zI_rg (by omega) (by omega), ← e10.1]
  · rw [if_neg (show ¬ nI 1 = 0 by decide), if_pos (show nI 1 = 1 from rfl), if_neg (by decide), if_pos rfl, zI_rg (by omega) (by omega), ← e11.1]
  · rw [if_neg (show ¬ nI 2 = 0 by decide), if_neg (show ¬ nI 2 = 1 by decide), if_neg (by decide), if_neg (by decide)]
    unfold F_X2_taken
    rw [Option.bind_some, zI_rg (by omega) (by omega), zI_rg (by omega) (by omega), zI_rg (by omega) (by omega), e8.1, zI_rg (by omega) (by omega), s6 _ e8.2, e10.1, e11.1, zI_add, zI_sub hf]
    rfl
theorem c_free {N : Nat} {T : RM} {np nf nu nr k : Nat} (I : Inv T np nf nu nr) (hk : k < nf) : F_X6_seatsAt N T (nI k) 2 = some (nI (freN T k)) := c_seatsAt (c := 2) I hk (by decide)
theorem freN_le {T : RM} {np nf nu nr k : Nat} (I : Inv T np nf nu nr) (hk : k < nf) : freN T k ≤ 80 := by
  have e8 := (I.2.2.2.1.2.1 k hk).2
  unfold freN
  omega
theorem m_sell {N : Nat} {T : RM} {np nf nu nr k z : Nat} (I : Inv T np nf nu nr) (hk : k < nf) (hz : 1 ≤ z ∧ z ≤ 99) : MRes T (F_X6_sellSeats N T (nI k) (nI z)) (fun T' => Inv T' np nf nu nr) := by
  have hfree := c_free (N := N) I hk
  have hfl := freN_le I hk
  have I' := I
  obtain ⟨⟨i1, i2, i3, i4⟩, ⟨s0, s1, s2, s3, s4, s5, s6⟩, ⟨p2, p3, p4, p5, p6⟩, ⟨q7, q8, q9, q10, q11, q12⟩, ⟨u13, u14⟩, ⟨r15, r16, r17⟩, ibit, ihld, iapt, ipri, icrw, ilod⟩ := I
  have j1 : jIn (nI z) 1 99 = 1 := jIn_nat (l := 1) (h := 99) hz.1 hz.2 (by decide)
  have hrun : F_X6_sellSeats N T (nI k) (nI z) = if nI z ≤ nI (freN T k) then some (nI (freN T k) - nI z, u1 T 10 (upd (T 10) k (nI (nv (T 10 k) + z)))) else some (jRef 4 (nI (freN T k)), T) := by
    unfold F_X6_sellSeats
    rw [z_has2, Option.bind_some, s3, jIn_idx hk (by omega), if_neg (show ¬ (1 : Int32) = 0 by decide), j1, if_neg (show ¬ (1 : Int32) = 0 by decide), hfree, Option.bind_some, jlet_eq, zI_rs (by omega) (by omega), zI_rg (by omega) (by omega)]
    conv => lhs; rw [(q10 k hk).1]
    rw [zI_add]
  by_cases hle : z ≤ freN T k
  · rw [if_pos (ile_t hle (by omega)), zI_sub hle] at hrun
    refine mres_ok (by omega) hrun ?_
    generalize hT : u1 T 10 (upd (T 10) k (nI (nv (T 10 k) + z))) = T'
    have g10 : T' 10 = upd (T 10) k (nI (nv (T 10 k) + z)) := by rw [← hT]; rfl
    have gr : T' 0 = T 0 ∧ T' 1 = T 1 ∧ T' 2 = T 2 ∧ T' 3 = T 3 ∧ T' 4 = T 4 ∧ T' 5 = T 5 ∧ T' 6 = T 6 ∧ T' 7 = T 7 ∧ T' 8 = T 8 ∧ T' 9 = T 9 ∧ T' 11 = T 11 ∧ T' 12 = T 12 ∧ T' 13 = T 13 ∧ T' 14 = T 14 ∧ T' 15 = T 15 ∧ T' 16 = T 16 ∧ T' 17 = T 17 := by
      rw [← hT]; exact ⟨rfl, rfl, rfl, rfl, rfl, rfl, rfl, rfl, rfl, rfl, rfl, rfl, rfl, rfl, rfl, rfl, rfl⟩
    obtain ⟨g0, g1, g2, g3, g4, g5, g6, g7, g8, g9, g11, g12, g13, g14, g15, g16, g17⟩ := gr
    have hlt : nv (T 10 k) + z + nv (T 11 k) ≤ 40 + 20 * nv (T 8 k) := by
      have := (ihld k hk).2
      unfold freN at hle
      omega
    have h8 := (q8 k hk).2
    unfold Inv SSca SPro SPer SSub SReq SBit SHld hldN SApt SPri SCrw SLod
    rw [g0, g1, g2, g3, g4, g5, g6, g7, g8, g9, g10, g11, g12, g13, g14, g15, g16, g17]
    refine ⟨⟨i1, i2, i3, i4⟩, ⟨s0, s1, s2, s3, s4, s5, s6⟩, ⟨p2, p3, p4, p5, p6⟩, ⟨q7, q8, q9, ok_set q10 (by omega) (by decide), q11, q12⟩, ⟨u13, u14⟩, ⟨r15, r16, r17⟩, ibit, fun i hi => ⟨(ihld i hi).1, ?_⟩, iapt, ipri, icrw, ilod⟩
    by_cases h : i = k
    · subst h
      rw [upd_eq, nv_nI (by omega)]
      exact hlt
    · rw [upd_ne h]
      exact (ihld i hi).2
  · rw [if_neg (ile_f (by omega) (by omega))] at hrun
    exact mres_no (a := 4) (by decide) (by decide) (show freN T k < 1000 by omega) hrun I'
theorem c_heldFor {N : Nat} {T : RM} {nf u : Nat} (hN : 24 < N) (hnf : nf ≤ 24) (hu : u < 32) (d3 : T 0 3 = nI nf) (h : Ok (T 12) nf (2 ^ 31)) : F_X2_heldFor N T (nI u) = some (nI (hsN T u nf)) := by
  unfold F_X2_heldFor
  refine loopN (fun n a i => D_X2_heldFor_4 N T n (nI u) a i) (fun i => nI (hsN T u i)) nf _ (fun n => ?_) (fun n i hi => ?_) nf N 0 (by omega) (by omega)
  · show D_X2_heldFor_4 N T (n + 1) (nI u) (nI (hsN T u nf)) (nI nf) = _
    rw [D_X2_heldFor_4, d3, if_pos (ile_t (Nat.le_refl nf) (by omega))]
  · show D_X2_heldFor_4 N T (n + 1) (nI u) (nI (hsN T u i)) (nI i) = D_X2_heldFor_4 N T n (nI u) (nI (hsN T u (i + 1))) (nI (i + 1))
    rw [D_X2_heldFor_4, d3, if_neg (ile_f hi (by omega)), c_isHeld hu (by omega) (h i hi).1, Option.bind_some, zI_succ, hsN, nI_shl i (by omega), nI_or]
    by_cases hb : (nv (T 12 i)).testBit u = true
    · rw [if_pos hb, if_neg (by decide), if_pos hb]
    · rw [if_neg hb, if_pos rfl, if_neg hb]
theorem m_hold {N : Nat} {T : RM} {np nf nu nr u k : Nat} (hN : 24 < N) (I : Inv T np nf nu nr) (hu : u < nu) (hk : k < nf) : MRes T (F_X6_holdSeats N T (nI u) (nI k)) (fun T' => Inv T' np nf nu nr) := by
  have hfree := c_free (N := N) I hk
  have hfl := freN_le I hk
  have I' := I
  obtain ⟨⟨i1, i2, i3, i4⟩, ⟨s0, s1, s2, s3, s4, s5, s6⟩, ⟨p2, p3, p4, p5, p6⟩, ⟨q7, q8, q9, q10, q11, q12⟩, ⟨u13, u14⟩, ⟨r15, r16, r17⟩, ibit, ihld, iapt, ipri, icrw, ilod⟩ := I
  have e13 := u13 u hu
  have e12 := q12 k hk
  have e11 := q11 k hk
  have hrg : rg 10 (T 13) (nI u) = nI (nv (T 13 u)) := by rw [zI_rg (by omega) (by omega)]; exact e13.1
  have h2nu : 2 ^ nu ≤ 2 ^ 10 := Nat.pow_le_pow_right (by decide) (by omega)
  have hrun : F_X6_holdSeats N T (nI u) (nI k) = if nI (nv (T 13 u)) ≤ nI (freN T k) then (if (if (nv (T 12 k)).testBit u = true then (1 : Int32) else 0) = 0 then ((F_X2_beginHolding N T (nI u) (nI k) (nI (nv (T 13 u)))).bind (fun r6 => (jlet (mgX2 T r6) (fun M7 => ((F_X2_heldFor N M7 (nI u)).bind (fun r8 => (some ((bcnt r8), M7)))))))) else some (jRef 5 (nI k), T)) else some (jRef 4 (nI (freN T k)), T) := by
    unfold F_X6_holdSeats
    rw [z_has7, Option.bind_some, s4, jIn_idx hu (by omega), if_neg (show ¬ (1 : Int32) = 0 by decide), z_has2, Option.bind_some, s3, jIn_idx hk (by omega), if_neg (show ¬ (1 : Int32) = 0 by decide), hfree, Option.bind_some, hrg, c_isHeld (by omega) (by omega) e12.1, Option.bind_some]
  by_cases hle : nv (T 13 u) ≤ freN T k
  · rw [if_pos (ile_t hle (by omega))] at hrun
    by_cases hb : (nv (T 12 k)).testBit u = true
    · rw [if_pos hb, if_neg (by decide)] at hrun
      exact mres_no (a := 5) (by decide) (by decide) (show k < 1000 by omega) hrun I'
    · rw [if_neg hb, if_pos rfl, c_begin (by omega) (by omega) e12.1 e11.1, Option.bind_some, jlet_eq] at hrun
      generalize hT : mgX2 T (u1 (u1 T 12 (upd (T 12) k (nI (nv (T 12 k) ||| 2 ^ u)))) 11 (upd (T 11) k (nI (nv (T 11 k) + nv (T 13 u))))) = T' at hrun
      have g0 : ∀ x, T' 0 x = T 0 x := fun x => by
        rw [← hT]
        show cond (Nat.beq x 3) (T 0 x) (T 0 x) = T 0 x
        cases Nat.beq x 3 <;> rfl
      have g11 : T' 11 = upd (T 11) k (nI (nv (T 11 k) + nv (T 13 u))) := by rw [← hT]; rfl
      have g12 : T' 12 = upd (T 12) k (nI (nv (T 12 k) ||| 2 ^ u)) := by rw [← hT]; rfl
      have gr : T' 1 = T 1 ∧ T' 2 = T 2 ∧ T' 3 = T 3 ∧ T' 4 = T 4 ∧ T' 5 = T 5 ∧ T' 6 = T 6 ∧ T' 7 = T 7 ∧ T' 8 = T 8 ∧ T' 9 = T 9 ∧ T' 10 = T 10 ∧ T' 13 = T 13 ∧ T' 14 = T 14 ∧ T' 15 = T 15 ∧ T' 16 = T 16 ∧ T' 17 = T 17 := by
        rw [← hT]; exact ⟨rfl, rfl, rfl, rfl, rfl, rfl, rfl, rfl, rfl, rfl, rfl, rfl, rfl, rfl, rfl⟩
      obtain ⟨g1, g2, g3, g4, g5, g6, g7, g8, g9, g10, g13, g14, g15, g16, g17⟩ := gr
      have hor : nv (T 12 k) ||| 2 ^ u < 2 ^ nu := or_lt e12.2 (two_lt hu)
      have ok12 : Ok (T' 12) nf (2 ^ nu) := by rw [g12]; exact ok_set q12 hor (by omega)
      have hpop := popN_le (hsN T' u nf) 32
      have h2nf : hsN T' u nf < 2 ^ 32 := Nat.lt_of_lt_of_le (hsN_lt T' u nf) (Nat.pow_le_pow_right (by decide) (by omega))
      rw [c_heldFor hN i2 (by omega) ((g0 3).trans s3) (ok_up ok12 (by omega)), Option.bind_some, bcnt_pop h2nf] at hrun
      refine mres_ok (by omega) hrun ?_
      have hlt : nv (T 10 k) + (nv (T 11 k) + nv (T 13 u)) ≤ 40 + 20 * nv (T 8 k) := by
        have := (ihld k hk).2
        unfold freN at hle
        omega
      have h8 := (q8 k hk).2
      have hhl : ∀ i, i < nf → nv (T' 11 i) = hldN T' i nu := by
        intro i hi
        unfold hldN
        rw [g11, g12, g13]
        by_cases h : i = k
        · subst h
          rw [upd_eq, upd_eq, nv_nI (by omega), nv_nI (by omega), (ihld i hi).1]
          unfold hldN
          refine (sumN_one hu (fun p hp hpu => ?_) ?_).symm
          · rw [Nat.testBit_or, Nat.testBit_two_pow, decide_eq_false (fun e => hpu e.symm), Bool.or_false]
          · rw [Nat.testBit_or, Nat.testBit_two_pow, decide_eq_true rfl, Bool.or_true, if_pos rfl, if_neg hb, Nat.zero_add]
        · rw [upd_ne h, upd_ne h]
          exact (ihld i hi).1
      unfold Inv SSca SPro SPer SSub SReq SBit SHld SApt SPri SCrw SLod
      rw [g0 0, g0 1, g0 2, g0 3, g0 4, g0 5, g1, g2, g3, g4, g5, g6, g7, g8, g9, g10, g13, g14, g15, g16, g17]
      refine ⟨⟨i1, i2, i3, i4⟩, ⟨s0, s1, s2, s3, s4, s5, s6⟩, ⟨p2, p3, p4, p5, p6⟩, ⟨q7, q8, q9, q10, by rw [g11]; exact ok_set q11 (by omega) (by decide), ok12⟩, ⟨u13, u14⟩, ⟨r15, r16, r17⟩, ibit, fun i hi => ⟨hhl i hi, ?_⟩, iapt, ipri, icrw, ilod⟩
      rw [g11]
      by_cases h : i = k
      · subst h
        rw [upd_eq, nv_nI (by omega)]
        exact hlt
      · rw [upd_ne h]
        exact (ihld i hi).2
  · rw [if_neg (ile_f (by omega) (by omega))] at hrun
    exact mres_no (a := 4) (by decide) (by decide) (show freN T k < 1000 by omega) hrun I'
