/-! nextDate -/
theorem stN_fl {m f l x : Nat} (hf : m.testBit f = true) (hf2 : ∀ e, e < f → m.testBit e = false) (hl : m.testBit l = true) (hl2 : ∀ e, l < e → m.testBit e = false) : stN m x = true ↔ f ≤ x ∧ x ≤ l ∧ m.testBit x = false := by
  rw [stN_iff]
  constructor
  · rintro ⟨⟨e, e1, e2⟩, ⟨g, g1, g2⟩, h⟩
    refine ⟨?_, ?_, h⟩
    · rcases Nat.lt_or_ge x f with q | q
      · rw [hf2 e (by omega)] at e2; cases e2
      · exact q
    · rcases Nat.lt_or_ge l x with q | q
      · rw [hl2 g (by omega)] at g2; cases g2
      · exact q
  · rintro ⟨h1, h2, h3⟩
    have hne : f ≠ x := fun q => by rw [q, h3] at hf; cases hf
    exact ⟨⟨f, by omega, hf⟩, ⟨l, h2, hl⟩, h3⟩
theorem stN_0 {m x : Nat} (h : ∀ e, e < 30 → m.testBit e = false) (hx : x < 30) : stN m x = false := by
  cases hb : stN m x with
  | false => rfl
  | true =>
    obtain ⟨⟨e, e1, e2⟩, -⟩ := (stN_iff m x).mp hb
    rw [h e (by omega)] at e2
    cases e2
theorem canBe_248 {N : Nat} {M : RM} {k : Int32 → Int32 → Int32 → Int32 → Int32 → Int32 → Int32 → Option Int32} {v1 v3 v4 v5 v6 v7 : Int32} {x rm L z L' : Nat} {w s : Bool} (h4 : M 1 4 = nI rm) (hrm : rm ≤ 99) (hL : L ≤ 99) (hz : z ≤ 9) (h : L' + (if w = true then z else 0) = L + (if s = true then z else 0)) :
    (if (if s = true then (1 : Int32) else 0) = 0 then (if (if w = true then (1 : Int32) else 0) = 0 then (D_X9_canBe_248 N M k v1 v3 v4 v5 v6 v7 (nI x) (0 : Int32) (nI L + (0 : Int32))) else (D_X9_canBe_248 N M k v1 v3 v4 v5 v6 v7 (nI x) (nI z) (nI L + (0 : Int32)))) else (if (if w = true then (1 : Int32) else 0) = 0 then (D_X9_canBe_248 N M k v1 v3 v4 v5 v6 v7 (nI x) (0 : Int32) (nI L + nI z)) else (D_X9_canBe_248 N M k v1 v3 v4 v5 v6 v7 (nI x) (nI z) (nI L + nI z)))) = if L' ≤ rm then k v1 v3 v4 v5 v6 v7 (nI (x + 1)) else some 0 := by
  have key : ∀ s0 s1 : Int32, s1 - s0 = nI L' → D_X9_canBe_248 N M k v1 v3 v4 v5 v6 v7 (nI x) s0 s1 = if L' ≤ rm then k v1 v3 v4 v5 v6 v7 (nI (x + 1)) else some 0 := by
    intro s0 s1 hs
    unfold D_X9_canBe_248
    rw [if_pos (by decide), show M 1 (4 : Int32).toNatClampNeg = nI rm from h4, hs, zI_succ]
    have hb : L' ≤ 108 := by
      cases w <;> cases s <;> simp at h <;> omega
    by_cases q : L' ≤ rm
    · rw [if_pos q, if_pos (ile_t q (by omega))]
    · rw [if_neg q, if_neg (ile_f (by omega) (by omega))]
  cases s with
  | false =>
    rw [if_pos (show (if false = true then (1 : Int32) else 0) = 0 from rfl)]
    cases w with
    | false =>
      rw [if_pos (show (if false = true then (1 : Int32) else 0) = 0 from rfl)]
      refine key _ _ ?_
      have e : L' = L := by simpa using h
      rw [Int32.add_zero, Int32.sub_zero, e]
    | true =>
      rw [if_neg (show ¬ (if true = true then (1 : Int32) else 0) = 0 by decide)]
      refine key _ _ ?_
      have e : L' + z = L := by simpa using h
      rw [Int32.add_zero, zI_sub (by omega)]
      congr 1
      omega
  | true =>
    rw [if_neg (show ¬ (if true = true then (1 : Int32) else 0) = 0 by decide)]
    cases w with
    | false =>
      rw [if_pos (show (if false = true then (1 : Int32) else 0) = 0 from rfl)]
      refine key _ _ ?_
      have e : L' = L + z := by simpa using h
      rw [Int32.sub_zero, zI_add, e]
    | true =>
      rw [if_neg (show ¬ (if true = true then (1 : Int32) else 0) = 0 by decide)]
      refine key _ _ ?_
      have e : L' + z = L + z := by simpa using h
      rw [zI_add, zI_sub (by omega)]
      congr 1
      omega
def PB (M : RM) (P Sg d : Nat) (k : Nat) : Prop := M 1 (39 + 4 * k + 2) = nI d ∧ (M 1 (39 + 4 * k + 1) = nI Sg ∨ M 1 (39 + 4 * k + 0) = nI P)
theorem r_canBe {N : Nat} (hN : 30 < N) {T M : RM} {np nf nu nr P Sg d : Nat} (hS : RS4 T (M 1) np nf nu nr) (hP : P < np) (hSg : Sg < 3) (hd : d < 30) : ∃ r c : Int32, F_X6_placingRefusal N T (-1) (nI P) (nI Sg) (nI d) = some c ∧ F_X9_canBe N M (nI P) (nI Sg) (nI d) = some r ∧ ((r = 0 ∧ ¬ c = 0) ∨ (r = 1 ∧ c = 0)) := by
  have hS' := hS
  obtain ⟨⟨c1, c2, c3, c4, d1, d2, d3, d4, d5, d6, d7, d8⟩, htop, hpro, hper, hapt, hsub, hreq, hcrw⟩ := hS'
  have hDC := dc_of hS
  have hC := zcr_of hS
  have hZ := zsz_of hS
  obtain ⟨st, hst, hstb⟩ := htop.2.2.1
  obtain ⟨rm, hrm, hrmb⟩ := htop.2.2.2.1
  have t00 : T 0 0 = nI st := htop.1.trans hst
  have t01 : T 0 1 = nI rm := htop.2.1.trans hrm
  have e38 : M 1 (38 : Int32).toNatClampNeg = nI nf := d4
  have e3 : M 1 (3 : Int32).toNatClampNeg = nI st := hst
  obtain ⟨dw, w1, m', w2, w3, w4⟩ := dw_none (N := N) hS hP hd
  obtain ⟨m, q1, q2, q3⟩ := hDC.1 P hP
  obtain ⟨cz, hcz, hczb⟩ := hC.2 P hP
  obtain ⟨z, hz, hzb⟩ := hZ.2 P hP
  have hco := c_findOther (N := N) (mv := -1) (a := nI P) (b := nI Sg) (c := nI d) (by omega) c2 d3
  have hPO : ∀ k, k < nf → (PO T (-1) (nI P) (nI Sg) (nI d) k ↔ PB M P Sg d k) := by
    intro k hk
    obtain ⟨⟨a1, a2, a3, -⟩, -⟩ := hper k hk
    unfold PO PB
    rw [a1, a2, a3]
    exact ⟨fun h => ⟨h.2.2, h.2.1⟩, fun h => ⟨zI_ne_neg (by omega), h.2, h.1⟩⟩
  have hcan := loopE (fun n i => D_X9_canBe_3 N M n (nI P) (nI Sg) (nI d) i) (PB M P Sg d) nf ((F_X9_crews N M (nI d)).bind (fun r21 => ((F_X9_d N M (nI P) (1 : Int32)).bind (fun r22 => (if inb (3 : Int32) 2169 = true then (if (r21 + r22) ≤ ((M 1) (3 : Int32).toNatClampNeg) then ((F_X9_firstOf N M (nI P)).bind (fun r24 => ((F_X9_lastOf N M (nI P)).bind (fun r25 => (if r24 = (-1 : Int32) then (D_X9_canBe_111 N M (nI P) (nI d) r24 r25 (nI d)) else (if r24 ≤ nI d then (D_X9_canBe_111 N M (nI P) (nI d) r24 r25 r24) else (D_X9_canBe_111 N M (nI P) (nI d) r24 r25 (nI d)))))))) else (some (0 : Int32))) else none))))) (fun _ => some 0)
    (fun n => by
      show D_X9_canBe_3 N M (n + 1) (nI P) (nI Sg) (nI d) (nI nf) = _
      rw [D_X9_canBe_3, if_pos (by decide), e38, if_pos (ile_t (Nat.le_refl nf) (by omega))])
    (fun n i hi hp => by
      show D_X9_canBe_3 N M (n + 1) (nI P) (nI Sg) (nI d) (nI i) = D_X9_canBe_3 N M n (nI P) (nI Sg) (nI d) (nI (i + 1))
      rw [D_X9_canBe_3, if_pos (by decide), e38, if_neg (ile_f hi (by omega)), z_p (v2 := 2) i 2 rfl rfl (by omega) (by omega), z_p (v2 := 1) i 1 rfl rfl (by omega) (by omega), z_p (v2 := 0) i 0 rfl rfl (by omega) (by omega)]
      simp only [Option.bind_some]
      rw [zI_succ]
      by_cases h2 : M 1 (39 + 4 * i + 2) = nI d
      · rw [if_pos h2, if_neg (fun h1 => hp ⟨h2, Or.inl h1⟩), if_neg (fun h0 => hp ⟨h2, Or.inr h0⟩)]
      · rw [if_neg h2])
    (fun n i hi hp => by
      show D_X9_canBe_3 N M (n + 1) (nI P) (nI Sg) (nI d) (nI i) = some 0
      rw [D_X9_canBe_3, if_pos (by decide), e38, if_neg (ile_f hi (by omega)), z_p (v2 := 2) i 2 rfl rfl (by omega) (by omega), z_p (v2 := 1) i 1 rfl rfl (by omega) (by omega), z_p (v2 := 0) i 0 rfl rfl (by omega) (by omega)]
      simp only [Option.bind_some]
      rw [if_pos hp.1]
      by_cases h1 : M 1 (39 + 4 * i + 1) = nI Sg
      · rw [if_pos h1]
      · rw [if_neg h1, if_pos (hp.2.resolve_left h1)]) nf N 0 (by omega) (by omega)
  have hcb : F_X9_canBe N M (nI P) (nI Sg) (nI d) = D_X9_canBe_3 N M N (nI P) (nI Sg) (nI d) (nI 0) := rfl
  rcases hco with ⟨x1, x2⟩ | ⟨i, i1, i2, i3, i4⟩
  · rcases hcan with ⟨y1, y2⟩ | ⟨j, _, j1, j2, _, _⟩
    · have hpl : F_X6_placingRefusal N T (-1) (nI P) (nI Sg) (nI d) = (F_X3_staffRefusalIf N T (nI st) (nI P) dw).bind (fun r3 => if r3 = 0 then ((F_X3_roomRefusalIf N T (nI rm) (nI P) dw).bind (fun r4 => some r4)) else some r3) := by
        unfold F_X6_placingRefusal
        rw [x2, Option.bind_some, if_pos rfl, w1, Option.bind_some, t00, t01]
      have hbit : ∀ e, e < 30 → (m'.testBit e = true ↔ m.testBit e = true ∨ e = d) := by
        intro e he
        rw [w4 e he, q3 e he]
        constructor
        · rintro (⟨k, k1, k2, k3, k4⟩ | h)
          · exact Or.inl ⟨k, k1, k3, k4⟩
          · exact Or.inr h
        · rintro (⟨k, k1, k3, k4⟩ | h)
          · exact Or.inl ⟨k, k1, zI_ne_neg (by omega), k3, k4⟩
          · exact Or.inr h
      have hmd : m.testBit d = false := by
        cases hb : m.testBit d with
        | false => rfl
        | true =>
          obtain ⟨k, k1, k2, k3⟩ := (q3 d hd).mp hb
          exact absurd ⟨k3, Or.inr k2⟩ (y1 k (Nat.zero_le k) k1)
      have hbitF : ∀ e, e < 30 → m.testBit e = false → ¬ e = d → m'.testBit e = false := by
        intro e he h1 h2
        cases hb : m'.testBit e with
        | false => rfl
        | true =>
          rcases (hbit e he).mp hb with h | h
          · rw [h1] at h; cases h
          · exact absurd h h2
      have hDP : DW T (nI P) dw P = nI m' := by unfold DW; rw [if_pos rfl]; exact w2
      have hDo : ∀ p, p ≠ P → p < np → DW T (nI P) dw p = T 6 p := fun p hpP hp => by unfold DW; rw [if_neg (ine hpP (by omega) (by omega))]
      have hDOk : DOk (DW T (nI P) dw) np := fun p hp => by
        by_cases hpP : p = P
        · subst hpP; exact ⟨m', hDP, w3⟩
        · rw [hDo p hpP hp]
          obtain ⟨m0, a, b, _⟩ := hDC.1 p hp
          exact ⟨m0, a, b⟩
      have hcr : ∀ e, e < 30 → crewN (DW T (nI P) dw) (T 3) np e = crewN (T 6) (T 3) np e + (if e = d then cz else 0) := by
        intro e he
        unfold crewN
        refine sumN_one hP (fun p hp hpP => by rw [hDo p hpP hp]) ?_
        show (if (nv (DW T (nI P) dw P)).testBit e = true then nv (T 3 P) else 0) = (if (nv (T 6 P)).testBit e = true then nv (T 3 P) else 0) + (if e = d then cz else 0)
        rw [hDP, q1, hcz, nv_nI (by omega), nv_nI (by omega), nv_nI (by omega)]
        by_cases hed : e = d
        · rw [if_pos ((hbit e he).mpr (Or.inr hed)), if_pos hed, hed, hmd, if_neg (by decide)]; omega
        · rw [if_neg hed, Nat.add_zero]
          cases hb : m.testBit e with
          | true => rw [if_pos ((hbit e he).mpr (Or.inl hb)), if_pos rfl]
          | false => rw [if_neg (by rw [hbitF e he hb hed]; decide), if_neg (by decide)]
      have hld : ∀ e, e < 30 → loadN (DW T (nI P) dw) (T 2) np e + (if stN m e = true then z else 0) = loadN (T 6) (T 2) np e + (if stN m' e = true then z else 0) := by
        intro e he
        have h1 : loadN (DW T (nI P) dw) (T 2) np e = sumN (fun p => if p = P then 0 else if stN (nv (T 6 p)) e = true then nv (T 2 p) else 0) np + (if stN m' e = true then z else 0) := by
          unfold loadN
          refine sumN_one hP (fun p hp hpP => by rw [hDo p hpP hp, if_neg hpP]) ?_
          show (if stN (nv (DW T (nI P) dw P)) e = true then nv (T 2 P) else 0) = (if P = P then 0 else _) + _
          rw [hDP, hz, nv_nI (by omega), nv_nI (by omega), if_pos rfl, Nat.zero_add]
        have h2 : loadN (T 6) (T 2) np e = sumN (fun p => if p = P then 0 else if stN (nv (T 6 p)) e = true then nv (T 2 p) else 0) np + (if stN m e = true then z else 0) := by
          unfold loadN
          refine sumN_one hP (fun p hp hpP => by rw [if_neg hpP]) ?_
          show (if stN (nv (T 6 P)) e = true then nv (T 2 P) else 0) = (if P = P then 0 else _) + _
          rw [q1, hz, nv_nI (by omega), nv_nI (by omega), if_pos rfl, Nat.zero_add]
        omega
      have hrc : F_X9_crews N M (nI d) = some (nI (crewN (T 6) (T 3) np d)) := r_crews hN c1 c2 d4 hDC hC.1 hC.2 hd
      have hcb48 := crewN_bd (D := T 6) (d := d) c1 hC.2
      rw [hrc, Option.bind_some, z_d (v2 := 1) P 1 rfl rfl (by omega) (by omega), Option.bind_some, if_pos (by decide), hC.1 P hP, hcz, zI_add, e3] at y2
      by_cases hst2 : crewN (T 6) (T 3) np d + cz ≤ st
      · rw [if_pos (ile_t hst2 (by omega))] at y2
        have hall : ∀ e, e < 30 → crewN (DW T (nI P) dw) (T 3) np e ≤ st := by
          intro e he
          rw [hcr e he]
          by_cases hed : e = d
          · rw [if_pos hed, hed]; exact hst2
          · rw [if_neg hed, Nat.add_zero]
            have := hcrw e he
            rw [t00, nv_nI (by omega)] at this
            exact this
        have hstaff : F_X3_staffRefusalIf N T (nI st) (nI P) dw = some 0 := by
          rcases c_staff (N := N) (c := nI P) (cd := dw) hN c1 d1 hstb hDOk hC.2 with ⟨_, a⟩ | ⟨e, a1, a2, _, _⟩
          · exact a
          · have := hall e a1; omega
        rw [hstaff, Option.bind_some, if_pos rfl] at hpl
        obtain ⟨rf, g1, g2⟩ := r_first (N := N) (M := M) hN c2 d4 hDC P (by omega)
        obtain ⟨rl, g3, g4⟩ := r_last (N := N) (M := M) hN c2 d4 hDC P (by omega)
        rw [g1, Option.bind_some, g3, Option.bind_some] at y2
        have hbig : ∀ e, 30 ≤ e → m'.testBit e = false := fun e he => Nat.testBit_lt_two_pow (Nat.lt_of_lt_of_le w3 (Nat.pow_le_pow_right (by decide) he))
        have hfb := fst_bits q3 hDC.2.1 g2
        have hlb := lst_bits q2 q3 g4
        -- the loop over the dates, from the first to the last of the new run
        have hloop : ∀ f l : Nat, f < 30 → l < 30 → m'.testBit f = true → (∀ e, e < f → m'.testBit e = false) → m'.testBit l = true → (∀ e, l < e → m'.testBit e = false) →
            ((∀ e, e < 30 → loadN (DW T (nI P) dw) (T 2) np e ≤ rm) ∧ D_X9_canBe_130 N M N (nI P) (nI d) rf rl (nI f) (nI l) 0 = some 1) ∨ ((∃ e, e < 30 ∧ rm < loadN (DW T (nI P) dw) (T 2) np e) ∧ D_X9_canBe_130 N M N (nI P) (nI d) rf rl (nI f) (nI l) 0 = some 0) := by
          intro f l hf30 hl30 hf hf2 hl hl2
          have hstep : ∀ n x, x < 30 → D_X9_canBe_130 N M (n + 1) (nI P) (nI d) rf rl (nI f) (nI l) (nI x) = if loadN (DW T (nI P) dw) (T 2) np x ≤ rm then D_X9_canBe_130 N M n (nI P) (nI d) rf rl (nI f) (nI l) (nI (x + 1)) else some 0 := by
            intro n x hx
            have hon : F_X9_isOn N M (nI P) (nI x) = some (if m.testBit x = true then 1 else 0) := r_isOn hN c2 d4 (by omega) hx (q3 x hx)
            have hlo : F_X9_loadOf N M (nI x) = some (nI (loadN (T 6) (T 2) np x)) := r_loadOf hN c1 c2 d2 d4 hDC hZ.1 hZ.2 hx
            have hlb2 := loadN_bd (D := T 6) (d := x) c1 hZ.2
            have hfin : ∀ w : Bool, w = stN m x → D_X9_canBe_172 N M (D_X9_canBe_130 N M n) (nI P) (nI d) rf rl (nI f) (nI l) (nI x) (if w = true then 1 else 0) = if loadN (DW T (nI P) dw) (T 2) np x ≤ rm then D_X9_canBe_130 N M n (nI P) (nI d) rf rl (nI f) (nI l) (nI (x + 1)) else some 0 := by
              intro w hw
              have h209 : ∀ s : Bool, s = stN m' x → D_X9_canBe_209 N M (D_X9_canBe_130 N M n) (nI P) (nI d) rf rl (nI f) (nI l) (nI x) (if w = true then 1 else 0) (if s = true then 1 else 0) = if loadN (DW T (nI P) dw) (T 2) np x ≤ rm then D_X9_canBe_130 N M n (nI P) (nI d) rf rl (nI f) (nI l) (nI (x + 1)) else some 0 := by
                intro s hs
                unfold D_X9_canBe_209
                rw [z_d (v2 := 0) P 0 rfl rfl (by omega) (by omega), Option.bind_some, hlo, Option.bind_some, hZ.1 P hP, hz]
                refine canBe_248 hrm hrmb (by omega) hzb ?_
                rw [hw, hs]
                exact hld x hx
              unfold D_X9_canBe_172
              rw [hon, Option.bind_some]
              have hs := stN_fl (x := x) hf hf2 hl hl2
              by_cases k1 : x < f
              · rw [if_pos ((zI_lt (by omega) (by omega)).mpr k1)]
                exact h209 false (by
                  cases hb : stN m' x with
                  | false => rfl
                  | true => have := (hs.mp hb).1; omega)
              · rw [if_neg (fun q => k1 ((zI_lt (by omega) (by omega)).mp q))]
                by_cases k2 : l < x
                · rw [if_pos ((zI_lt (by omega) (by omega)).mpr k2)]
                  exact h209 false (by
                    cases hb : stN m' x with
                    | false => rfl
                    | true => have := (hs.mp hb).2.1; omega)
                · rw [if_neg (fun q => k2 ((zI_lt (by omega) (by omega)).mp q))]
                  by_cases k3 : x = d
                  · rw [if_pos (by rw [k3])]
                    exact h209 false (by
                      cases hb : stN m' x with
                      | false => rfl
                      | true =>
                        have h1 := (hs.mp hb).2.2
                        rw [(hbit x hx).mpr (Or.inr k3)] at h1
                        cases h1)
                  · rw [if_neg (ine k3 (by omega) (by omega))]
                    cases k4 : m.testBit x with
                    | true =>
                      rw [if_neg (show ¬ (if true = true then (1 : Int32) else 0) = 0 by decide)]
                      exact h209 false (by
                        cases hb : stN m' x with
                        | false => rfl
                        | true =>
                          have h1 := (hs.mp hb).2.2
                          rw [(hbit x hx).mpr (Or.inl k4)] at h1
                          cases h1)
                    | false =>
                      rw [if_pos (show (if false = true then (1 : Int32) else 0) = 0 from rfl)]
                      exact h209 true (hs.mpr ⟨by omega, by omega, hbitF x hx k4 k3⟩).symm
            rw [D_X9_canBe_130, if_neg (show ¬ (30 : Int32) ≤ nI x from ile_f (a := 30) hx (by omega)), hon, Option.bind_some]
            rcases hfb with ⟨a1, a2⟩ | ⟨f0, a1, a2, a3, a4⟩
            · rw [if_pos a1]
              exact hfin false (stN_0 a2 hx).symm
            · rw [if_neg (show ¬ rf = -1 by rw [a2]; exact zI_ne_neg (by omega))]
              rcases hlb with ⟨b1, b2⟩ | ⟨l0, b1, b2, b3, b4⟩
              · rw [b2 f0] at a3; cases a3
              · have hs0 := stN_fl (x := x) a3 a4 b3 b4
                by_cases k1 : x < f0
                · rw [if_pos (show nI x < rf by rw [a2]; exact (zI_lt (by omega) (by omega)).mpr k1)]
                  exact hfin false (by
                    cases hb : stN m x with
                    | false => rfl
                    | true => have := (hs0.mp hb).1; omega)
                · rw [if_neg (show ¬ nI x < rf by rw [a2]; exact fun q => k1 ((zI_lt (by omega) (by omega)).mp q))]
                  by_cases k2 : l0 < x
                  · rw [if_pos (show rl < nI x by rw [b2]; exact (zI_lt (by omega) (by omega)).mpr k2)]
                    exact hfin false (by
                      cases hb : stN m x with
                      | false => rfl
                      | true => have := (hs0.mp hb).2.1; omega)
                  · rw [if_neg (show ¬ rl < nI x by rw [b2]; exact fun q => k2 ((zI_lt (by omega) (by omega)).mp q))]
                    cases k4 : m.testBit x with
                    | true =>
                      rw [if_neg (show ¬ (if true = true then (1 : Int32) else 0) = 0 by decide)]
                      exact hfin false (by
                        cases hb : stN m x with
                        | false => rfl
                        | true =>
                          have h1 := (hs0.mp hb).2.2
                          rw [k4] at h1
                          cases h1)
                    | false =>
                      rw [if_pos (show (if false = true then (1 : Int32) else 0) = 0 from rfl)]
                      exact hfin true (hs0.mpr ⟨by omega, by omega, k4⟩).symm
          rcases loopE (fun n i => D_X9_canBe_130 N M n (nI P) (nI d) rf rl (nI f) (nI l) i) (fun e => rm < loadN (DW T (nI P) dw) (T 2) np e) 30 (some 1) (fun _ => some 0)
            (fun n => by
              show D_X9_canBe_130 N M (n + 1) (nI P) (nI d) rf rl (nI f) (nI l) (nI 30) = some 1
              rw [D_X9_canBe_130, if_pos (by decide)])
            (fun n i hi hp => by
              show D_X9_canBe_130 N M (n + 1) (nI P) (nI d) rf rl (nI f) (nI l) (nI i) = D_X9_canBe_130 N M n (nI P) (nI d) rf rl (nI f) (nI l) (nI (i + 1))
              rw [hstep n i hi, if_pos (Nat.le_of_not_lt hp)])
            (fun n i hi hp => by
              show D_X9_canBe_130 N M (n + 1) (nI P) (nI d) rf rl (nI f) (nI l) (nI i) = some 0
              rw [hstep n i hi, if_neg (Nat.not_le.mpr hp)]) 30 N 0 (by omega) (by omega) with ⟨a, b⟩ | ⟨j, _, j1, j2, _, b⟩
          · exact Or.inl ⟨fun e he => Nat.le_of_not_lt (a e (Nat.zero_le e) he), b⟩
          · exact Or.inr ⟨⟨j, j1, j2⟩, b⟩
        have hfinal : ∀ f l : Nat, f < 30 → l < 30 → m'.testBit f = true → (∀ e, e < f → m'.testBit e = false) → m'.testBit l = true → (∀ e, l < e → m'.testBit e = false) → D_X9_canBe_3 N M N (nI P) (nI Sg) (nI d) (nI 0) = D_X9_canBe_130 N M N (nI P) (nI d) rf rl (nI f) (nI l) 0 → ∃ r c : Int32, F_X6_placingRefusal N T (-1) (nI P) (nI Sg) (nI d) = some c ∧ F_X9_canBe N M (nI P) (nI Sg) (nI d) = some r ∧ ((r = 0 ∧ ¬ c = 0) ∨ (r = 1 ∧ c = 0)) := by
          intro f l f1 l1 f2 f3 l2 l3 he
          rcases c_room (N := N) (c := nI P) (cd := dw) hN c1 d1 hrmb hDOk hZ.2 with ⟨a1, a2⟩ | ⟨e, a1, a2, a3, a4⟩
          · rcases hloop f l f1 l1 f2 f3 l2 l3 with ⟨b1, b2⟩ | ⟨⟨e, b1, b2⟩, b3⟩
            · exact ⟨1, 0, by rw [hpl, a2, Option.bind_some], by rw [hcb, he, b2], Or.inr ⟨rfl, rfl⟩⟩
            · have := a1 e b1; omega
          · rcases hloop f l f1 l1 f2 f3 l2 l3 with ⟨b1, b2⟩ | ⟨⟨e', b1, b2⟩, b3⟩
            · have := b1 e a1; omega
            · exact ⟨0, jRef 3 (nI e), by rw [hpl, a4, Option.bind_some], by rw [hcb, he, b3], Or.inl ⟨rfl, jRef_ne0 (a := 3) (by omega) (by omega) (by omega)⟩⟩
        have hd' : m'.testBit d = true := (hbit d hd).mpr (Or.inr rfl)
        unfold D_X9_canBe_111 at y2
        rcases hfb with ⟨a1, a2⟩ | ⟨f0, a1, a2, a3, a4⟩
        · rcases hlb with ⟨b1, b2⟩ | ⟨l0, b1, b2, b3, b4⟩
          · refine hfinal d d hd hd hd' (fun e he => hbitF e (by omega) (a2 e (by omega)) (by omega)) hd' (fun e he => ?_) ?_
            · rcases Nat.lt_or_ge e 30 with q | q
              · exact hbitF e q (a2 e q) (by omega)
              · exact hbig e q
            · refine y2.trans ?_
              rw [if_pos a1, if_neg (show ¬ nI d ≤ rl by
                rw [b1, Int32.le_iff_toInt_le, zI_int (by omega)]
                have e : (-1 : Int32).toInt = -1 := rfl
                omega)]
          · rw [a2 l0 b1] at b3; cases b3
        · rcases hlb with ⟨b1, b2⟩ | ⟨l0, b1, b2, b3, b4⟩
          · rw [b2 f0] at a3; cases a3
          · have hne : ¬ rf = -1 := by rw [a2]; exact zI_ne_neg (by omega)
            have hlow : ∀ f, f ≤ f0 → f ≤ d → ∀ e, e < f → m'.testBit e = false := fun f h1 h2 e he => hbitF e (by omega) (a4 e (by omega)) (by omega)
            have hhigh : ∀ l, l0 ≤ l → d ≤ l → ∀ e, l < e → m'.testBit e = false := fun l h1 h2 e he => by
              rcases Nat.lt_or_ge e 30 with q | q
              · exact hbitF e q (b4 e (by omega)) (by omega)
              · exact hbig e q
            have hf0' : m'.testBit f0 = true := (hbit f0 a1).mpr (Or.inl a3)
            have hl0' : m'.testBit l0 = true := (hbit l0 b1).mpr (Or.inl b3)
            by_cases k1 : f0 ≤ d
            · by_cases k2 : d ≤ l0
              · refine hfinal f0 l0 a1 b1 hf0' (hlow f0 (by omega) k1) hl0' (hhigh l0 (by omega) k2) (y2.trans ?_)
                rw [if_neg hne, if_pos (show rf ≤ nI d by rw [a2]; exact ile_t k1 (by omega)), if_pos (show nI d ≤ rl by rw [b2]; exact ile_t k2 (by omega)), ← a2, ← b2]
              · refine hfinal f0 d a1 hd hf0' (hlow f0 (by omega) k1) hd' (hhigh d (by omega) (by omega)) (y2.trans ?_)
                rw [if_neg hne, if_pos (show rf ≤ nI d by rw [a2]; exact ile_t k1 (by omega)), if_neg (show ¬ nI d ≤ rl by rw [b2]; exact ile_f (by omega) (by omega)), ← a2]
            · have k3 : d ≤ l0 := by
                rcases Nat.lt_or_ge l0 f0 with q | q
                · rw [b4 f0 q] at a3; cases a3
                · omega
              refine hfinal d l0 hd b1 hd' (hlow d (by omega) (by omega)) hl0' (hhigh l0 (by omega) k3) (y2.trans ?_)
              rw [if_neg hne, if_neg (show ¬ rf ≤ nI d by rw [a2]; exact ile_f (by omega) (by omega)), if_pos (show nI d ≤ rl by rw [b2]; exact ile_t k3 (by omega)), ← b2]
      · rw [if_neg (ile_f (by omega) (by omega))] at y2
        rcases c_staff (N := N) (c := nI P) (cd := dw) hN c1 d1 hstb hDOk hC.2 with ⟨a, _⟩ | ⟨e, a1, a2, a3, a4⟩
        · have h1 := a d hd
          rw [hcr d hd, if_pos rfl] at h1
          omega
        · have h1 := crewN_bd (D := DW T (nI P) dw) (d := e) c1 hC.2
          have hj := jRef_ne0 (a := 2) (d := crewN (DW T (nI P) dw) (T 3) np e - st) (by omega) (by omega) (by omega)
          refine ⟨0, jRef 2 (nI (crewN (DW T (nI P) dw) (T 3) np e - st)), ?_, by rw [hcb]; exact y2, Or.inl ⟨rfl, hj⟩⟩
          rw [hpl, a4, Option.bind_some]
          exact if_neg hj
    · exact absurd ((hPO j j1).mpr j2) (x1 j j1)
  · rcases hcan with ⟨y1, y2⟩ | ⟨j, _, j1, j2, _, j3⟩
    · exact absurd ((hPO i i1).mp i2) (y1 i (Nat.zero_le i) i1)
    · refine ⟨0, jRef 1 (nI i), ?_, by rw [hcb]; exact j3, Or.inl ⟨rfl, jRef_ne0 (a := 1) (by omega) (by omega) (by omega)⟩⟩
      unfold F_X6_placingRefusal
      rw [i4, Option.bind_some, if_neg (show ¬ nI i = -1 from zI_ne_neg (by omega))]
theorem je_nextDate : jE_nextDate (Rel RSea) := by
  intro S M v1 v2 v3 h
  obtain ⟨np, nf, nu, nr, hS⟩ := rel_rs h
  have hS' := hS
  obtain ⟨⟨c1, c2, c3, c4, d1, d2, d3, d4, d5, d6, d7, d8⟩, -⟩ := hS'
  have bad : ∀ rc : Int32, (rc = 1 ∨ rc = 2) → F_X8_nextDate 3000 S v1 v2 v3 = some (rc, 0, S) → F_X9_nextDate 3000 M v1 v2 v3 = some (0, stF M 0 rc) → ∃ (N1 : Nat) (rc : _) (N2 : Nat) (rm : _), F_X8_nextDate N1 S v1 v2 v3 = some rc ∧ F_X9_nextDate N2 M v1 v2 v3 = some rm ∧ (rc.1 = 0 ∨ rc.1 = 1 ∨ rc.1 = 2 ∨ rc.1 = 5) ∧ rm.2 0 0 = hk_nextDate rc.1 ∧ (rc.1 = 0 → rc.2.1 = rm.1) ∧ Rel RSea rc.2.2 rm.2 := by
    intro rc hrc h1 h2
    refine ⟨3000, _, 3000, _, h1, h2, ?_, ?_, fun q => ?_, rel_thr RSea_loc h rc⟩
    · rcases hrc with q | q
      · exact Or.inr (Or.inl q)
      · exact Or.inr (Or.inr (Or.inl q))
    · show stF M 0 rc 0 0 = hk_nextDate rc
      rw [stF_eq]
      rcases hrc with q | q <;> rw [q] <;> rfl
    · have q : rc = 0 := q
      rcases hrc with q2 | q2 <;> rw [q2] at q <;> exact absurd q (by decide)
  rcases zI_idx (n := np) (by omega) v1 with hz | ⟨ho, P, hP, rfl⟩
  · refine bad 1 (Or.inl rfl) ?_ ?_
    · unfold F_X8_nextDate; rw [z_has3, Option.bind_some, d1, if_pos hz, if_neg (by decide)]; rfl
    · unfold F_X9_nextDate D_X9_nextDate_16
      rw [z_isProduction, Option.bind_some, d2, if_pos hz]
      simp only [jlet]
      rw [stF_eq, if_neg (show ¬ (1 : Int32) = 0 by decide)]
  have hne : ¬ jIn (nI P) 0 (nI np - 1) = 0 := by rw [ho]; decide
  by_cases hv2 : jIn v2 0 2 = 0
  · refine bad 1 (Or.inl rfl) ?_ ?_
    · unfold F_X8_nextDate; rw [z_has3, Option.bind_some, d1, if_neg hne, if_pos hv2, if_neg (by decide)]; rfl
    · unfold F_X9_nextDate D_X9_nextDate_16
      rw [z_isProduction, Option.bind_some, d2, if_neg hne, z_isStage, Option.bind_some, if_pos hv2]
      simp only [jlet]
      rw [stF_eq, if_neg (show ¬ (1 : Int32) = 0 by decide)]
  by_cases hv3 : jIn v3 0 29 = 0
  · refine bad 2 (Or.inr rfl) ?_ ?_
    · unfold F_X8_nextDate; rw [z_has3, Option.bind_some, d1, if_neg hne, if_neg hv2, if_pos (show ckIndex 1 = 0 by decide), hv3, if_neg (show ¬ ckArgument 0 = 0 by decide)]; rfl
    · unfold F_X9_nextDate
      rw [z_isProduction, Option.bind_some, d2, if_neg hne, z_isStage, Option.bind_some, if_neg hv2, z_isDate, Option.bind_some, if_pos hv3]
      simp only [jlet]
      rw [stF_eq, if_neg (show ¬ (2 : Int32) = 0 by decide)]
  have hj3 : jIn v3 0 29 = 1 := by rw [jIn_eq, if_pos (Decidable.not_not.mp (fun q => hv3 (jIn_0.mpr q)))]
  obtain ⟨Sg, rfl, -, hSg⟩ := zI_btw (a := 0) (b := 2) (by decide) (by decide) (Decidable.not_not.mp (fun q => hv2 (jIn_0.mpr q)))
  obtain ⟨d, rfl, -, hd⟩ := zI_btw (a := 0) (b := 29) (by decide) (by decide) (Decidable.not_not.mp (fun q => hv3 (jIn_0.mpr q)))
  have hS0 : RS4 (S 0) (stF M 0 0 1) np nf nu nr := by rw [stF_1]; exact hS
  have hc : F_X8_nextDate 3000 S (nI P) (nI Sg) (nI d) = D_X8_nextDate_39 3000 3000 S (nI P) (nI Sg) (nI d) := by
    unfold F_X8_nextDate; rw [z_has3, Option.bind_some, d1, if_neg hne, if_neg hv2, if_pos (show ckIndex 1 = 0 by decide), hj3, if_pos (show ckArgument 1 = 0 by decide)]
  have hr : F_X9_nextDate 3000 M (nI P) (nI Sg) (nI d) = D_X9_nextDate_47 3000 3000 (stF M 0 0) (nI P) (nI Sg) (nI d) := by
    unfold F_X9_nextDate
    rw [z_isProduction, Option.bind_some, d2, if_neg hne, z_isStage, Option.bind_some, if_neg hv2, z_isDate, Option.bind_some, if_neg hv3]
    simp only [jlet]
    rw [stF_eq, if_pos rfl]
  have key : ∀ (dd n1 n2 i : Nat), i + dd = 30 → dd < n1 → dd < n2 → (∃ e, D_X8_nextDate_39 3000 n1 S (nI P) (nI Sg) (nI i) = some (0, nI e, S) ∧ D_X9_nextDate_47 3000 n2 (stF M 0 0) (nI P) (nI Sg) (nI i) = some (nI e, stF M 0 0)) ∨ (D_X8_nextDate_39 3000 n1 S (nI P) (nI Sg) (nI i) = some (5, 0, S) ∧ D_X9_nextDate_47 3000 n2 (stF M 0 0) (nI P) (nI Sg) (nI i) = some (0, stF (stF M 0 0) 0 3)) := by
    intro dd
    induction dd with
    | zero =>
      intro n1 n2 i hi h1 h2
      obtain ⟨n1, rfl⟩ : ∃ k, n1 = k + 1 := ⟨n1 - 1, by omega⟩
      obtain ⟨n2, rfl⟩ : ∃ k, n2 = k + 1 := ⟨n2 - 1, by omega⟩
      obtain rfl : i = 30 := by omega
      refine Or.inr ⟨?_, ?_⟩
      · rw [D_X8_nextDate_39, if_pos (by decide)]
      · rw [D_X9_nextDate_47, if_pos (by decide)]
        simp only [jlet]
    | succ dd ih =>
      intro n1 n2 i hi h1 h2
      obtain ⟨n1, rfl⟩ : ∃ k, n1 = k + 1 := ⟨n1 - 1, by omega⟩
      obtain ⟨n2, rfl⟩ : ∃ k, n2 = k + 1 := ⟨n2 - 1, by omega⟩
      have h30 : ¬ (30 : Int32) ≤ nI i := ile_f (a := 30) (by omega) (by omega)
      obtain ⟨r, c, g1, g2, g3⟩ := r_canBe (N := 3000) (by omega) hS0 hP (show Sg < 3 by omega) (show i < 30 by omega)
      rw [D_X8_nextDate_39, if_neg h30, g1, Option.bind_some, D_X9_nextDate_47, if_neg h30, g2, Option.bind_some, zI_succ]
      rcases g3 with ⟨k1, k2⟩ | ⟨k1, k2⟩
      · rw [if_pos k1, if_neg k2]
        exact ih n1 n2 (i + 1) (by omega) (by omega) (by omega)
      · rw [if_pos k2, if_neg (show ¬ r = 0 by rw [k1]; decide)]
        exact Or.inl ⟨i, rfl, rfl⟩
  rcases key (30 - d) 3000 3000 d (by omega) (by omega) (by omega) with ⟨e, a, b⟩ | ⟨a, b⟩
  · refine ⟨3000, _, 3000, _, hc.trans a, hr.trans b, Or.inl rfl, ?_, fun _ => rfl, rel_thr RSea_loc h 0⟩
    show stF M 0 0 0 0 = hk_nextDate 0
    rw [stF_eq]; rfl
  · refine ⟨3000, _, 3000, _, hc.trans a, hr.trans b, Or.inr (Or.inr (Or.inr rfl)), ?_, fun q => absurd (show (5 : Int32) = 0 from q) (by decide), rel_thr RSea_loc (rel_thr RSea_loc h 0) 3⟩
    show stF (stF M 0 0) 0 3 0 0 = hk_nextDate 5
    rw [stF_eq]; rfl
