/-! a request -/
/-- where a request goes: ahead of the first of lower priority for its performance -/
def RPl (T : RM) (nr k pr i : Nat) : Prop := i ≤ nr ∧ (∀ j, j < i → nv (T 15 j) = k → pr ≤ nv (T 17 j)) ∧ (i < nr → nv (T 15 i) = k ∧ nv (T 17 i) < pr)
def insT (T : RM) (nr k z pr i : Nat) : RM := stF (u1 (u1 (u1 T 15 (insA 20 (T 15) i (nI k))) 16 (insA 20 (T 16) i (nI z))) 17 (insA 20 (T 17) i (nI pr))) 5 (nI (nr + 1))
theorem c_add4 {N : Nat} {T : RM} {nf nr k z pr : Nat} (hN : 24 < N) (hnf : nf ≤ 24) (hnr : nr < 20) (hk : k < nf) (hpr : pr ≤ 9) (d7 : T 0 5 = nI nr) (h15 : Ok (T 15) nr nf) (h17 : Ok (T 17) nr 10) :
    ∃ r, F_X4_add N T (nI k) (nI z) (nI pr) = some r ∧ ∃ v i, v < 2 ^ 31 ∧ RPl T nr k pr i ∧ r = (nI v, insT T nr k z pr i) := by
  unfold F_X4_add
  refine loopI (fun n (a : Nat) i => D_X4_add_6 N n T (nI k) (nI z) (nI pr) (nI a) i) (fun i a => a ≤ i ∧ ∀ j, j < i → nv (T 15 j) = k → pr ≤ nv (T 17 j)) nr (fun r => ∃ v i, v < 2 ^ 31 ∧ RPl T nr k pr i ∧ r = (nI v, insT T nr k z pr i)) (fun n a h => ?_) (fun n i a hi h => ?_) nr N 0 0 (by omega) (by omega) ⟨Nat.le_refl 0, fun j hj => absurd hj (Nat.not_lt_zero j)⟩
  · refine ⟨(nI a, insT T nr k z pr nr), ?_, a, nr, by omega, ⟨Nat.le_refl nr, h.2, fun e => absurd e (Nat.lt_irrefl nr)⟩, rfl⟩
    show D_X4_add_6 N (n + 1) T (nI k) (nI z) (nI pr) (nI a) (nI nr) = _
    rw [D_X4_add_6, d7, if_pos (ile_t (Nat.le_refl nr) (by omega)), c_add53 hN (Nat.le_refl nr) hnr d7]
    rfl
  · have e15 := h15 i hi
    have e17 := h17 i hi
    have hstep : D_X4_add_6 N (n + 1) T (nI k) (nI z) (nI pr) (nI a) (nI i) = (if nI (nv (T 15 i)) = nI k then (if nI pr ≤ nI (nv (T 17 i)) then D_X4_add_6 N n T (nI k) (nI z) (nI pr) (nI (a + 1)) (nI (i + 1)) else D_X4_add_53 N T (nI k) (nI z) (nI pr) (nI a) (nI i)) else D_X4_add_6 N n T (nI k) (nI z) (nI pr) (nI a) (nI (i + 1))) := by
      rw [D_X4_add_6, d7, if_neg (ile_f hi (by omega)), zI_rg (by omega) (by omega), zI_rg (by omega) (by omega), zI_succ, zI_succ, ← e15.1, ← e17.1]
    by_cases hq : nv (T 15 i) = k
    · by_cases hp : pr ≤ nv (T 17 i)
      · refine Or.inr ⟨a + 1, ⟨by omega, fun j hj hjk => ?_⟩, ?_⟩
        · by_cases hji : j = i
          · subst hji; exact hp
          · exact h.2 j (by omega) hjk
        · show D_X4_add_6 N (n + 1) T (nI k) (nI z) (nI pr) (nI a) (nI i) = D_X4_add_6 N n T (nI k) (nI z) (nI pr) (nI (a + 1)) (nI (i + 1))
          rw [hstep, hq, if_pos rfl, if_pos (ile_t hp (by omega))]
      · refine Or.inl ⟨(nI a, insT T nr k z pr i), ?_, a, i, by omega, ⟨by omega, h.2, fun _ => ⟨hq, by omega⟩⟩, rfl⟩
        show D_X4_add_6 N (n + 1) T (nI k) (nI z) (nI pr) (nI a) (nI i) = _
        rw [hstep, hq, if_pos rfl, if_neg (ile_f (by omega) (by omega)), c_add53 hN (by omega) hnr d7]
        rfl
    · refine Or.inr ⟨a, ⟨by omega, fun j hj hjk => ?_⟩, ?_⟩
      · by_cases hji : j = i
        · subst hji; exact absurd hjk hq
        · exact h.2 j (by omega) hjk
      · show D_X4_add_6 N (n + 1) T (nI k) (nI z) (nI pr) (nI a) (nI i) = D_X4_add_6 N n T (nI k) (nI z) (nI pr) (nI a) (nI (i + 1))
        rw [hstep, if_neg (ine hq (by omega) (by omega))]
theorem ok_ins {Z : Nat → Int32} {n b z i : Nat} (h : Ok Z n b) (hi : i ≤ n) (hn : n < 20) (hz : z < b) (hb : b ≤ 2 ^ 31) : Ok (insA 20 Z i (nI z)) (n + 1) b := by
  intro k hk
  rcases Nat.lt_trichotomy k i with h1 | h1 | h1
  · rw [insA_lt h1]; exact h k (by omega)
  · subst h1; exact ok_mk insA_eq hz hb
  · rw [insA_gt h1 (by omega)]; exact h (k - 1) (by omega)
theorem nv_ins {Z : Nat → Int32} {z i k : Nat} (hz : z < 2 ^ 31) (hk : k < 20) : nv (insA 20 Z i (nI z) k) = if k < i then nv (Z k) else if k = i then z else nv (Z (k - 1)) := by
  rcases Nat.lt_trichotomy k i with h1 | h1 | h1
  · rw [insA_lt h1, if_pos h1]
  · subst h1; rw [insA_eq, if_neg (Nat.lt_irrefl k), if_pos rfl, nv_nI hz]
  · rw [insA_gt h1 hk, if_neg (by omega), if_neg (by omega)]
theorem m_requ {N : Nat} {T : RM} {np nf nu nr k z pr : Nat} (hN : 24 < N) (I : Inv T np nf nu nr) (hr : nr < 20) (hk : k < nf) (hz : 1 ≤ z ∧ z ≤ 99) (hp : pr ≤ 9) : MRes T (F_X6_makeRequest N T (nI k) (nI z) (nI pr)) (fun T' => Inv T' np nf nu (nr + 1)) := by
  obtain ⟨⟨i1, i2, i3, i4⟩, ⟨s0, s1, s2, s3, s4, s5, s6⟩, ⟨p2, p3, p4, p5, p6⟩, ⟨q7, q8, q9, q10, q11, q12⟩, ⟨u13, u14⟩, ⟨r15, r16, r17⟩, ibit, ihld, iapt, ipri, icrw, ilod⟩ := I
  have j1 : jIn (nI z) 1 99 = 1 := jIn_nat (l := 1) (h := 99) hz.1 hz.2 (by decide)
  have j2 : jIn (nI pr) 0 9 = 1 := jIn_nat (l := 0) (h := 9) (Nat.zero_le _) hp (by decide)
  obtain ⟨r, hadd, v, i, hv, hpl, rfl⟩ := c_add4 (N := N) (z := z) hN i2 hr hk hp s5 r15 r17
  have hrun : F_X6_makeRequest N T (nI k) (nI z) (nI pr) = some (nI v, mgX4 T (insT T nr k z pr i)) := by
    unfold F_X6_makeRequest
    rw [z_has2, Option.bind_some, s3, jIn_idx hk (by omega), if_neg (show ¬ (1 : Int32) = 0 by decide), j1, if_neg (show ¬ (1 : Int32) = 0 by decide), j2, if_neg (show ¬ (1 : Int32) = 0 by decide), s5, if_pos (show nI nr < 20 from (zI_lt (b := 20) (by omega) (by decide)).mpr hr), hadd, Option.bind_some]
    rfl
  refine mres_ok hv hrun ?_
  unfold insT
  generalize hT : mgX4 T (stF (u1 (u1 (u1 T 15 (insA 20 (T 15) i (nI k))) 16 (insA 20 (T 16) i (nI z))) 17 (insA 20 (T 17) i (nI pr))) 5 (nI (nr + 1))) = T'
  have g0 : ∀ x, x ≠ 5 → T' 0 x = T 0 x := fun x hx => by
    rw [← hT]
    show cond (Nat.beq x 5) _ (T 0 x) = T 0 x
    exact cond0 hx _ _
  have g5' : T' 0 5 = nI (nr + 1) := by rw [← hT]; rfl
  have g15 : T' 15 = insA 20 (T 15) i (nI k) := by rw [← hT]; rfl
  have g16 : T' 16 = insA 20 (T 16) i (nI z) := by rw [← hT]; rfl
  have g17 : T' 17 = insA 20 (T 17) i (nI pr) := by rw [← hT]; rfl
  have gr : T' 1 = T 1 ∧ T' 2 = T 2 ∧ T' 3 = T 3 ∧ T' 4 = T 4 ∧ T' 5 = T 5 ∧ T' 6 = T 6 ∧ T' 7 = T 7 ∧ T' 8 = T 8 ∧ T' 9 = T 9 ∧ T' 10 = T 10 ∧ T' 11 = T 11 ∧ T' 12 = T 12 ∧ T' 13 = T 13 ∧ T' 14 = T 14 := by
    rw [← hT]; exact ⟨rfl, rfl, rfl, rfl, rfl, rfl, rfl, rfl, rfl, rfl, rfl, rfl, rfl, rfl⟩
  obtain ⟨g1, g2, g3, g4, g5, g6, g7, g8, g9, g10, g11, g12, g13, g14⟩ := gr
  obtain ⟨l1, l2, l3⟩ := hpl
  unfold Inv SSca SPro SPer SSub SReq SBit SHld hldN SApt SPri SCrw SLod
  rw [g0 0 (by decide), g0 1 (by decide), g0 2 (by decide), g0 3 (by decide), g0 4 (by decide), g5', g1, g2, g3, g4, g5, g6, g7, g8, g9, g10, g11, g12, g13, g14, g15, g16, g17]
  refine ⟨by unfold SCnt; omega, ⟨s0, s1, s2, s3, s4, rfl, s6⟩, ⟨p2, p3, p4, p5, p6⟩, ⟨q7, q8, q9, q10, q11, q12⟩, ⟨u13, u14⟩, ⟨ok_ins r15 l1 hr hk (by omega), ok_ins r16 l1 hr (by omega) (by decide), ok_ins r17 l1 hr (by omega) (by decide)⟩, ibit, ihld, iapt, fun a b hab hb => ?_, icrw, ilod⟩
  rw [nv_ins (by omega) (by omega), nv_ins (by omega) (by omega), nv_ins (by omega) (by omega), nv_ins (by omega) (by omega)]
  by_cases b1 : b < i
  · rw [if_pos b1, if_pos b1, if_pos (by omega), if_pos (by omega)]
    exact ipri a b hab (by omega)
  · rw [if_neg b1, if_neg b1]
    by_cases b2 : b = i
    · rw [if_pos b2, if_pos b2, if_pos (by omega), if_pos (by omega)]
      exact l2 a (by omega)
    · rw [if_neg b2, if_neg b2]
      by_cases a1 : a < i
      · rw [if_pos a1, if_pos a1]
        exact ipri a (b - 1) (by omega) (by omega)
      · rw [if_neg a1, if_neg a1]
        by_cases a2 : a = i
        · rw [if_pos a2, if_pos a2]
          intro hk2
          obtain ⟨f1, f2⟩ := l3 (by omega)
          by_cases hbi : b - 1 = i
          · rw [hbi]; omega
          · have := ipri i (b - 1) (by omega) (by omega) (f1.trans hk2)
            omega
        · rw [if_neg a2, if_neg a2]
          exact ipri (a - 1) (b - 1) (by omega) (by omega)
