/-! hold, release, exchange -/
/-- the performances at which a subscription holds seats -/
def hsN (T : RM) (u : Nat) : Nat → Nat
  | 0 => 0
  | n + 1 => if (nv (T 12 n)).testBit u = true then hsN T u n ||| 2 ^ n else hsN T u n
theorem hsN_bit (T : RM) (u : Nat) : ∀ n i, (hsN T u n).testBit i = (decide (i < n) && (nv (T 12 i)).testBit u) := by
  intro n
  induction n with
  | zero => intro i; rw [hsN, Nat.zero_testBit, decide_eq_false (Nat.not_lt_zero i), Bool.false_and]
  | succ n ih =>
    intro i
    rw [hsN]
    by_cases h : (nv (T 12 n)).testBit u = true
    · rw [if_pos h, Nat.testBit_or, Nat.testBit_two_pow, ih]
      by_cases hi : n = i
      · subst hi
        rw [decide_eq_true rfl, Bool.or_true, decide_eq_true (Nat.lt_succ_self n), h]; rfl
      · rw [decide_eq_false hi, Bool.or_false]
        congr 1
        exact decide_eq_decide.mpr (by omega)
    · rw [if_neg h, ih]
      by_cases hi : i = n
      · subst hi
        have h' : (nv (T 12 i)).testBit u = false := by simpa using h
        rw [h', Bool.and_false, Bool.and_false]
      · congr 1
        exact decide_eq_decide.mpr (by omega)
theorem hsN_lt (T : RM) (u n : Nat) : hsN T u n < 2 ^ n := by
  refine Nat.lt_pow_two_of_testBit _ (fun i hi => ?_)
  rw [hsN_bit, decide_eq_false (by omega), Bool.false_and]
def HOk (T : RM) (A : Nat → Int32) (nf : Nat) : Prop := ∀ k, k < nf → ∃ b, T 12 k = nI b ∧ A (135 + k) = nI b ∧ b < 2 ^ 10
theorem hok_of {T : RM} {A : Nat → Int32} {np nf nu nr : Nat} (h : RS4 T A np nf nu nr) : HOk T A nf := fun k hk => by
  obtain ⟨⟨-, -, -, -, -, a6⟩, -, -, ⟨b, b1, b2⟩, -⟩ := h.2.2.2.1 k hk
  have := h.1.2.2.1
  exact ⟨b, a6.trans b1, b1, Nat.lt_of_lt_of_le b2 (Nat.pow_le_pow_right (by decide) this)⟩
theorem c_isHeld {N : Nat} {T : RM} {u k b : Nat} (hu : u < 32) (hk : k < 24) (hb : T 12 k = nI b) : F_X2_isHeldBy N T (nI u) (nI k) = some (if b.testBit u = true then 1 else 0) := by
  unfold F_X2_isHeldBy
  rw [zI_rg hk (by omega), hb, jBit_nat b hu]
  by_cases h : b.testBit u = true
  · rw [if_pos h, if_pos (by decide)]
  · rw [if_neg h, if_pos (by decide)]
theorem r_holds {N : Nat} {M : RM} {u k b : Nat} (hu : u < 32) (hk : k < 24) (hb : M 1 (135 + k) = nI b) : F_X9_holds N M (nI u) (nI k) = some (if b.testBit u = true then 1 else 0) := by
  rw [z_holds u k rfl rfl hk, hb]
  by_cases h : b.testBit u = true
  · rw [if_pos h, if_pos ((bitI_nat b hu).mpr h)]
  · rw [if_neg h, if_neg (fun q => h ((bitI_nat b hu).mp q))]
theorem c_heldFor {N : Nat} {T : RM} {A : Nat → Int32} {nf u : Nat} (hN : 24 < N) (hnf : nf ≤ 24) (hu : u < 32) (d3 : T 0 3 = nI nf) (h : HOk T A nf) : F_X2_heldFor N T (nI u) = some (nI (hsN T u nf)) := by
  unfold F_X2_heldFor
  refine loopN (fun n a i => D_X2_heldFor_4 N T n (nI u) a i) (fun i => nI (hsN T u i)) nf _ (fun n => ?_) (fun n i hi => ?_) nf N 0 (by omega) (by omega)
  · show D_X2_heldFor_4 N T (n + 1) (nI u) (nI (hsN T u nf)) (nI nf) = _
    rw [D_X2_heldFor_4, d3, if_pos (ile_t (Nat.le_refl nf) (by omega))]
  · show D_X2_heldFor_4 N T (n + 1) (nI u) (nI (hsN T u i)) (nI i) = D_X2_heldFor_4 N T n (nI u) (nI (hsN T u (i + 1))) (nI (i + 1))
    obtain ⟨b, b1, -, b3⟩ := h i hi
    rw [D_X2_heldFor_4, d3, if_neg (ile_f hi (by omega)), c_isHeld hu (by omega) b1, Option.bind_some, zI_succ, hsN, b1, nv_nI (by omega), nI_shl i (by omega), nI_or]
    by_cases hb : b.testBit u = true
    · rw [if_pos hb, if_neg (by decide), if_pos hb]
    · rw [if_neg hb, if_pos rfl, if_neg hb]
/-- how many they are -/
def hcN (A : Nat → Int32) (u nf : Nat) : Nat := sumN (fun k => if (nv (A (135 + k))).testBit u = true then 1 else 0) nf
theorem hcN_le (A : Nat → Int32) (u nf : Nat) : hcN A u nf ≤ nf := by
  have h := sumN_bd (f := fun k => if (nv (A (135 + k))).testBit u = true then 1 else 0) (n := nf) (c := 1) (fun k _ => by
    by_cases h : (nv (A (135 + k))).testBit u = true
    · rw [if_pos h]; exact Nat.le_refl 1
    · rw [if_neg h]; exact Nat.zero_le 1)
  rw [Nat.mul_one] at h
  exact h
theorem r_holdsAt {N : Nat} {T M : RM} {nf u : Nat} (hN : 24 < N) (hnf : nf ≤ 24) (hu : u < 32) (d4 : M 1 38 = nI nf) (h : HOk T (M 1) nf) : F_X9_holdsAt N M (nI u) = some (nI (hcN (M 1) u nf)) := by
  have e38 : M 1 (38 : Int32).toNatClampNeg = nI nf := d4
  unfold F_X9_holdsAt
  refine loopN (fun n a i => D_X9_holdsAt_4 N M n (nI u) a i) (fun i => nI (hcN (M 1) u i)) nf _ (fun n => ?_) (fun n i hi => ?_) nf N 0 (by omega) (by omega)
  · show D_X9_holdsAt_4 N M (n + 1) (nI u) (nI (hcN (M 1) u nf)) (nI nf) = _
    rw [D_X9_holdsAt_4, if_pos (by decide), e38, if_pos (ile_t (Nat.le_refl nf) (by omega))]
  · show D_X9_holdsAt_4 N M (n + 1) (nI u) (nI (hcN (M 1) u i)) (nI i) = D_X9_holdsAt_4 N M n (nI u) (nI (hcN (M 1) u (i + 1))) (nI (i + 1))
    obtain ⟨b, -, b2, b3⟩ := h i hi
    have hs : hcN (M 1) u (i + 1) = hcN (M 1) u i + (if b.testBit u = true then 1 else 0) := by
      unfold hcN
      rw [sumN, b2, nv_nI (by omega)]
    rw [D_X9_holdsAt_4, if_pos (by decide), e38, if_neg (ile_f hi (by omega)), r_holds hu (by omega) b2, Option.bind_some, zI_succ, zI_succ, Int32.add_zero, hs]
    by_cases hb : b.testBit u = true
    · rw [if_pos hb, if_neg (by decide), if_pos hb]
    · rw [if_neg hb, if_pos rfl, if_neg hb]; rfl
theorem hs_pop {T : RM} {A : Nat → Int32} {nf u : Nat} (hnf : nf ≤ 24) (h : HOk T A nf) : bcnt (nI (hsN T u nf)) = nI (hcN A u nf) := by
  have hl := hsN_lt T u nf
  have h24 : (2 : Nat) ^ nf ≤ 2 ^ 24 := Nat.pow_le_pow_right (by decide) hnf
  rw [bcnt_pop (by omega)]
  congr 1
  unfold popN hcN
  have e : (32 : Nat) = nf + (32 - nf) := by omega
  rw [e, sumN_app]
  have z : sumN (fun i => if (hsN T u nf).testBit (nf + i) = true then 1 else 0) (32 - nf) = 0 := by
    refine (sumN_congr (g := fun _ => 0) (fun i _ => ?_)).trans (sumN_zero _)
    rw [hsN_bit, decide_eq_false (by omega), Bool.false_and, if_neg (by decide)]
  rw [z, Nat.add_zero]
  refine sumN_congr (fun i hi => ?_)
  obtain ⟨b, b1, b2, -⟩ := h i hi
  rw [hsN_bit, decide_eq_true hi, Bool.true_and, b1, b2]
/-- the seats held, from the sizes of the subscriptions -/
theorem heldS_N {A : Nat → Int32} {k b : Nat} (hb : A (135 + k) = nI b) : ∀ nu, nu ≤ 32 → (∀ u, u < nu → ∃ z, A (160 + 2 * u) = nI z ∧ z ≤ 6) → heldS A k nu = nI (sumN (fun u => if b.testBit u = true then nv (A (160 + 2 * u)) else 0) nu) := by
  intro nu
  induction nu with
  | zero => intro _ _; rfl
  | succ n ih =>
    intro hn hz
    obtain ⟨z, z1, z2⟩ := hz n (Nat.lt_succ_self n)
    show heldS A k n + (if bitI (A (135 + k)) n then A (160 + 2 * n) else 0) = _
    rw [ih (by omega) (fun u hu => hz u (by omega)), hb, sumN, z1, nv_nI (by omega)]
    by_cases h : b.testBit n = true
    · rw [if_pos ((bitI_nat b (by omega)).mpr h), if_pos h, zI_add]
    · rw [if_neg (fun q => h ((bitI_nat b (by omega)).mp q)), if_neg h, Int32.add_zero]; rfl
theorem heldN_bd {A : Nat → Int32} {nu b : Nat} (hz : ∀ u, u < nu → ∃ z, A (160 + 2 * u) = nI z ∧ z ≤ 6) : sumN (fun u => if b.testBit u = true then nv (A (160 + 2 * u)) else 0) nu ≤ nu * 6 := sumN_bd (fun u hu => by
  obtain ⟨z, z1, z2⟩ := hz u hu
  by_cases h : b.testBit u = true
  · rw [if_pos h, z1, nv_nI (by omega)]; exact z2
  · rw [if_neg h]; exact Nat.zero_le _)
/-- one subscription more holds seats: b of b' -/
theorem held_add {A A' : Nat → Int32} {k nu u b b' z h : Nat} (hnu : nu ≤ 10) (hu : u < nu) (hb : A (135 + k) = nI b) (hb' : A' (135 + k) = nI b') (hz : ∀ u, u < nu → ∃ z, A (160 + 2 * u) = nI z ∧ z ≤ 6) (hA : ∀ u, u < nu → A' (160 + 2 * u) = A (160 + 2 * u)) (hzu : A (160 + 2 * u) = nI z) (hzb : z ≤ 6) (hbit : ∀ i, i < nu → i ≠ u → b'.testBit i = b.testBit i) (hbu : b.testBit u = false) (hbu' : b'.testBit u = true) (hh : heldS A k nu = nI h) (hhb : h ≤ 99) : heldS A' k nu = nI (h + z) := by
  have h1 := heldS_N hb nu (by omega) hz
  have h2 := heldS_N hb' nu (by omega) (fun u hu => by rw [hA u hu]; exact hz u hu)
  have hbd := heldN_bd (b := b) hz
  have e := (zI_eq (by omega) (by omega)).mp (hh.symm.trans h1)
  rw [h2, e]
  congr 1
  refine sumN_one hu (fun i hi hne => by rw [hbit i hi hne, hA i hi]) ?_
  rw [if_pos hbu', hbu, if_neg (by decide), hA u hu, hzu, nv_nI (by omega), Nat.zero_add]
theorem held_sub {A A' : Nat → Int32} {k nu u b b' z h : Nat} (hnu : nu ≤ 10) (hu : u < nu) (hb : A (135 + k) = nI b) (hb' : A' (135 + k) = nI b') (hz : ∀ u, u < nu → ∃ z, A (160 + 2 * u) = nI z ∧ z ≤ 6) (hA : ∀ u, u < nu → A' (160 + 2 * u) = A (160 + 2 * u)) (hzu : A (160 + 2 * u) = nI z) (hzb : z ≤ 6) (hbit : ∀ i, i < nu → i ≠ u → b'.testBit i = b.testBit i) (hbu : b.testBit u = true) (hbu' : b'.testBit u = false) (hh : heldS A k nu = nI h) (hhb : h ≤ 99) : z ≤ h ∧ heldS A' k nu = nI (h - z) := by
  have h1 := heldS_N hb nu (by omega) hz
  have h2 := heldS_N hb' nu (by omega) (fun u hu => by rw [hA u hu]; exact hz u hu)
  have hbd := heldN_bd (b := b) hz
  have e := (zI_eq (by omega) (by omega)).mp (hh.symm.trans h1)
  have e2 : sumN (fun u => if b.testBit u = true then nv (A (160 + 2 * u)) else 0) nu = sumN (fun u => if b'.testBit u = true then nv (A' (160 + 2 * u)) else 0) nu + z := by
    refine sumN_one hu (fun i hi hne => by rw [hbit i hi hne, hA i hi]) ?_
    rw [if_pos hbu, hbu', if_neg (by decide), hzu, nv_nI (by omega), Nat.zero_add]
  refine ⟨by omega, ?_⟩
  rw [h2]
  congr 1
  omega
theorem mg2_id {T z : RM} (h : ∀ r, r ≠ 11 → r ≠ 12 → z r = T r) : mgX2 T z = z := by
  funext r
  unfold mgX2
  by_cases h0 : r = 0
  · subst h0
    funext y
    show cond (Nat.beq y 3) (z 0 y) (T 0 y) = z 0 y
    rw [h 0 (by decide) (by decide)]
    cases Nat.beq y 3 <;> rfl
  · have hb : Nat.beq r 0 = false := by
      cases hb : Nat.beq r 0 with
      | false => rfl
      | true => exact absurd (Nat.eq_of_beq_eq_true hb) h0
    rw [hb]
    show cond (Nat.ble 7 r && Nat.ble r 12) (z r) (T r) = z r
    cases hb2 : (Nat.ble 7 r && Nat.ble r 12) with
    | true => rfl
    | false =>
      show T r = z r
      refine (h r (fun e => ?_) (fun e => ?_)).symm
      · subst e; exact absurd hb2 (by decide)
      · subst e; exact absurd hb2 (by decide)
/-- other seats held at a performance -/
theorem RS4_held {T T' : RM} {A A' : Nat → Int32} {np nf nu nr k h' b' : Nat} (hS : RS4 T A np nf nu nr) (hk : k < nf) (tj : ∀ r, r ≠ 11 → r ≠ 12 → T' r = T r) (t11 : T' 11 = upd (T 11) k (nI h')) (t12 : T' 12 = upd (T 12) k (nI b')) (aN : ∀ c, c ≠ 135 + k → A' c = A c) (aS : A' (135 + k) = nI b') (hb : b' < 2 ^ nu) (hh : heldS A' k nu = nI h')
    (hw : ∃ s w z, s < 3 ∧ A (39 + 4 * k + 1) = nI s ∧ A (39 + 4 * k + 3) = nI w ∧ A s = nI z ∧ z ≤ 99 ∧ w + h' ≤ z) : RS4 T' A' np nf nu nr := by
  obtain ⟨⟨c1, c2, c3, c4, d1, d2, d3, d4, d5, d6, d7, d8⟩, htop, hpro, hper, hapt, hsub, hreq, hcrw⟩ := hS
  have t0 : T' 0 = T 0 := tj 0 (by decide) (by decide)
  refine ⟨⟨c1, c2, c3, c4, by rw [t0]; exact d1, (aN 5 (by omega)).trans d2, by rw [t0]; exact d3, (aN 38 (by omega)).trans d4, by rw [t0]; exact d5, (aN 159 (by omega)).trans d6, by rw [t0]; exact d7, (aN 180 (by omega)).trans d8⟩, RTop_c (by rw [t0]) (by rw [t0]) (tj 1 (by decide) (by decide)) (fun x hx => aN x (by omega)) htop,
    RPro_c c1 c2 (tj 2 (by decide) (by decide)) (tj 3 (by decide) (by decide)) (tj 4 (by decide) (by decide)) (tj 5 (by decide) (by decide)) (tj 6 (by decide) (by decide)) (fun x h1 h2 => aN x (by omega)) (fun x h1 h2 => aN x (by omega)) hpro, fun i hi => ?_, RApt_c c2 (fun x h1 h2 => aN x (by omega)) hapt,
    RSub_c (fun _ _ => by rw [tj 13 (by decide) (by decide)]) (fun _ _ => by rw [tj 14 (by decide) (by decide)]) (fun u hu => ⟨aN _ (by omega), aN _ (by omega)⟩) hsub, RReq_c c4 (tj 15 (by decide) (by decide)) (tj 16 (by decide) (by decide)) (tj 17 (by decide) (by decide)) (fun x h1 h2 => aN x (by omega)) hreq, fun d hd => ?_⟩
  · obtain ⟨⟨a1, a2, a3, a4, a5, a6⟩, b1, b2, b3, s', w2, h2, z', g1, g2, g3, g4, g5, g6, g7⟩ := hper i hi
    rw [tj 7 (by decide) (by decide), tj 8 (by decide) (by decide), tj 9 (by decide) (by decide), tj 10 (by decide) (by decide), t11, t12, aN (39 + 4 * i + 0) (by omega), aN (39 + 4 * i + 1) (by omega), aN (39 + 4 * i + 2) (by omega), aN (39 + 4 * i + 3) (by omega)]
    by_cases hik : i = k
    · subst hik
      obtain ⟨s, w, z, w1, w2', w3, w4, w5, w6⟩ := hw
      rw [aS, upd_eq, upd_eq, hh]
      exact ⟨⟨a1, a2, a3, a4, rfl, rfl⟩, b1, b2, ⟨b', rfl, hb⟩, s, w, h', z, w1, w2', w3, rfl, by rw [aN s (by omega)]; exact w4, w5, w6⟩
    · have hh' : heldS A' i nu = heldS A i nu := heldS_c (aN _ (by omega)) (fun u hu => aN _ (by omega))
      rw [aN (135 + i) (by omega), upd_ne hik, upd_ne hik, hh']
      exact ⟨⟨a1, a2, a3, a4, a5, a6⟩, b1, b2, b3, s', w2, h2, z', g1, g2, g3, g4, by rw [aN s' (by omega)]; exact g5, g6, g7⟩
  · rw [tj 6 (by decide) (by decide), tj 3 (by decide) (by decide), t0]
    exact hcrw d hd
/-- begin and end of holding -/
theorem c_begin {N : Nat} {T : RM} {u k b h z : Nat} (hu : u < 31) (hk : k < 24) (hb : T 12 k = nI b) (hh : T 11 k = nI h) : F_X2_beginHolding N T (nI u) (nI k) (nI z) = some (u1 (u1 T 12 (upd (T 12) k (nI (b ||| 2 ^ u)))) 11 (upd (T 11) k (nI (h + z)))) := by
  unfold F_X2_beginHolding
  rw [zI_rg hk (by omega), hb, nI_shl u hu, nI_or, zI_rs hk (by omega)]
  simp only [jlet]
  rw [u1_ne (show (11 : Nat) ≠ 12 by decide), zI_rg hk (by omega), hh, zI_add, zI_rs hk (by omega)]
theorem c_end {N : Nat} {T : RM} {u k b h z : Nat} (hu : u < 31) (hk : k < 24) (hb : T 12 k = nI b) (hh : T 11 k = nI h) (hzh : z ≤ h) : F_X2_endHolding N T (nI u) (nI k) (nI z) = some (u1 (u1 T 12 (upd (T 12) k (nI (clr b u)))) 11 (upd (T 11) k (nI (h - z)))) := by
  unfold F_X2_endHolding
  rw [zI_rg hk (by omega), hb, nI_clr b hu, zI_rs hk (by omega)]
  simp only [jlet]
  rw [u1_ne (show (11 : Nat) ≠ 12 by decide), zI_rg hk (by omega), hh, show nI h + -nI z = nI (h - z) from (Int32.sub_eq_add_neg (nI h) (nI z)).symm.trans (zI_sub hzh), zI_rs hk (by omega)]
theorem RS4_d3 {T : RM} {A : Nat → Int32} {np nf nu nr : Nat} (h : RS4 T A np nf nu nr) : T 0 3 = nI nf := h.1.2.2.2.2.2.2.1
theorem RS4_d4 {T : RM} {A : Nat → Int32} {np nf nu nr : Nat} (h : RS4 T A np nf nu nr) : A 38 = nI nf := h.1.2.2.2.2.2.2.2.1
theorem jo_hold : jO_hold RSea := by
  intro T M hr v1 v2
  obtain ⟨np, nf, nu, nr, hS⟩ := rs_M.mp hr
  have hS' := hS
  obtain ⟨⟨c1, c2, c3, c4, d1, d2, d3, d4, d5, d6, d7, d8⟩, htop, hpro, hper, hapt, hsub, hreq, hcrw⟩ := hS'
  rcases zI_idx (n := nu) (by omega) v1 with hz | ⟨ho, u, hu, rfl⟩
  · refine ⟨(-1, T), (1, M), ?_, ?_, op_no (by decide) (Or.inl ⟨rfl, rfl⟩)⟩
    · unfold F_X6_holdSeats; rw [z_has7, Option.bind_some, d5, if_pos hz]
    · unfold F_X9_takes; rw [z_isSubscription, Option.bind_some, d6, if_pos hz]
  have hne : ¬ jIn (nI u) 0 (nI nu - 1) = 0 := by rw [ho]; decide
  rcases zI_idx (n := nf) (by omega) v2 with hz | ⟨ho2, k, hk, rfl⟩
  · refine ⟨(-1, T), (1, M), ?_, ?_, op_no (by decide) (Or.inl ⟨rfl, rfl⟩)⟩
    · unfold F_X6_holdSeats; rw [z_has7, Option.bind_some, d5, if_neg hne, z_has2, Option.bind_some, d3, if_pos hz]
    · unfold F_X9_takes; rw [z_isSubscription, Option.bind_some, d6, if_neg hne, z_isPerformance, Option.bind_some, d4, if_pos hz]
  have hne2 : ¬ jIn (nI k) 0 (nI nf - 1) = 0 := by rw [ho2]; decide
  obtain ⟨s, w, h, z, f1, f2, f3, f4, f5, f6, f7, f8, f9, f10, f11, f12, f13, f14, f15⟩ := z_free1 (N := 3000) (by omega) hS hk
  obtain ⟨b, b1, b2, b3⟩ := hok_of hS k hk
  obtain ⟨s1, s2, ⟨x, x1, x2, x3⟩, -⟩ := hsub u hu
  have t13 : T 13 u = nI x := s1.trans x1
  have hcl0 : F_X6_holdSeats 3000 T (nI u) (nI k) = if nI x ≤ nI (z - (w + h)) then (if (if b.testBit u = true then (1 : Int32) else 0) = 0 then ((F_X2_beginHolding 3000 T (nI u) (nI k) (nI x)).bind (fun r6 => (jlet (mgX2 T r6) (fun M7 => ((F_X2_heldFor 3000 M7 (nI u)).bind (fun r8 => (some ((bcnt r8), M7)))))))) else (some ((jRef (5 : Int32) (nI k)), T))) else (some ((jRef (4 : Int32) (nI (z - (w + h)))), T)) := by
    unfold F_X6_holdSeats
    rw [z_has7, Option.bind_some, d5, if_neg hne, z_has2, Option.bind_some, d3, if_neg hne2, f15, Option.bind_some, zI_rg (by omega) (by omega), t13, c_isHeld (by omega) (by omega) b1, Option.bind_some]
  have hrf0 : F_X9_takes 3000 M (nI u) (nI k) = if nI x ≤ nI (z - (w + h)) then (D_X9_takes_40 3000 M (nI u) (nI k) (nI (z - (w + h))) 0) else (D_X9_takes_40 3000 M (nI u) (nI k) (nI (z - (w + h))) 1) := by
    unfold F_X9_takes
    rw [z_isSubscription, Option.bind_some, d6, if_neg hne, z_isPerformance, Option.bind_some, d4, if_neg hne2, f13, Option.bind_some, z_u (v2 := 0) u 0 rfl rfl (by omega) (by omega), Option.bind_some, x1]
  have hhold : F_X9_holds 3000 M (nI u) (nI k) = some (if b.testBit u = true then 1 else 0) := r_holds (by omega) (by omega) b2
  by_cases hf : x ≤ z - (w + h)
  · rw [if_pos (ile_t hf (by omega))] at hcl0 hrf0
    unfold D_X9_takes_40 at hrf0
    rw [z_ref0, Option.bind_some, if_pos rfl, hhold, Option.bind_some] at hrf0
    by_cases hbit : b.testBit u = true
    · rw [if_pos hbit, if_neg (by decide)] at hcl0
      rw [if_pos hbit, z_ref1, Option.bind_some, if_neg (show ¬ (1 : Int32) = 0 by decide)] at hrf0
      exact ⟨_, _, hcl0, hrf0, op_ref (a := 5) (d := k) (by decide) (near_refl M) (by omega) (by omega) (by omega)⟩
    · have hbf : b.testBit u = false := by simpa using hbit
      rw [if_neg hbit, if_pos rfl, c_begin (by omega) (by omega) b1 f6, Option.bind_some, mg2_id (fun r r11 r12 => by rw [u1_ne r11, u1_ne r12])] at hcl0
      have i135 : (135 : Int32) + nI k = nI (135 + k) := zI_add 135 k
      rw [if_neg hbit, z_ref0, Option.bind_some, if_pos rfl, i135, if_pos (zI_inb (by omega) (by omega)), if_pos (zI_inb (by omega) (by omega))] at hrf0
      simp only [jlet] at hcl0 hrf0
      rw [zI_nat (by omega), b2, nI_shl u (by omega), nI_or] at hrf0
      have row : stA M 1 (nI (135 + k)) (nI (b ||| 2 ^ u)) 1 = upd (M 1) (135 + k) (nI (b ||| 2 ^ u)) := stA_1 (by omega)
      have n1 : Near M (stA M 1 (nI (135 + k)) (nI (b ||| 2 ^ u))) := near_stA (by omega)
      generalize stA M 1 (nI (135 + k)) (nI (b ||| 2 ^ u)) = M1 at hrf0 row n1
      have aN : ∀ c, c ≠ 135 + k → M1 1 c = M 1 c := fun c hc => by rw [row, upd_ne hc]
      have aS : M1 1 (135 + k) = nI (b ||| 2 ^ u) := by rw [row, upd_eq]
      have hzz : ∀ u, u < nu → ∃ z, M 1 (160 + 2 * u) = nI z ∧ z ≤ 6 := fun u hu => by
        obtain ⟨-, -, ⟨x, y1, -, y3⟩, -⟩ := hsub u hu
        exact ⟨x, y1, y3⟩
      have hb2 : b < 2 ^ nu := by
        obtain ⟨-, -, -, ⟨b', q1, q2⟩, -⟩ := hper k hk
        have e := (zI_eq (a := b) (b := b') (by omega) (Nat.lt_of_lt_of_le q2 (Nat.le_trans (Nat.pow_le_pow_right (by decide) c3) (by decide)))).mp (b2.symm.trans q1)
        rw [e]; exact q2
      have hheld : heldS (M1 1) k nu = nI (h + x) := held_add c3 hu b2 aS hzz (fun u hu => aN _ (by omega)) x1 x3 (fun i hi hne => by rw [Nat.testBit_or, Nat.testBit_two_pow, decide_eq_false (fun e => hne e.symm), Bool.or_false]) hbf (by rw [Nat.testBit_or, Nat.testBit_two_pow, decide_eq_true rfl, Bool.or_true]) f10 (by omega)
      have hS1 : RS4 (u1 (u1 T 12 (upd (T 12) k (nI (b ||| 2 ^ u)))) 11 (upd (T 11) k (nI (h + x)))) (M1 1) np nf nu nr := RS4_held hS hk (fun r r11 r12 => by rw [u1_ne r11, u1_ne r12]) rfl rfl aN aS (or_lt hb2 (two_lt hu)) hheld ⟨s, w, z, f1, f9, f8, f11, f2, by omega⟩
      have hok1 := hok_of hS1
      rw [c_heldFor (N := 3000) (by omega) c2 (by omega) (RS4_d3 hS1) hok1, Option.bind_some, hs_pop c2 hok1] at hcl0
      rw [r_holdsAt (by omega) c2 (by omega) (RS4_d4 hS1) hok1, Option.bind_some] at hrf0
      exact ⟨_, _, hcl0, hrf0, op_ok (by decide) (near_trans n1 (near_stF (Or.inl rfl))) (zI_pos (by have := hcN_le (M1 1) u nf; omega)) stF_eq ⟨np, nf, nu, nr, by rw [stF_1]; exact hS1⟩⟩
  · rw [if_neg (ile_f (by omega) (by omega))] at hcl0 hrf0
    unfold D_X9_takes_40 at hrf0
    rw [z_ref1, Option.bind_some, if_neg (show ¬ (1 : Int32) = 0 by decide)] at hrf0
    exact ⟨_, _, hcl0, hrf0, op_ref (a := 4) (d := z - (w + h)) (by decide) (near_refl M) (by omega) (by omega) (by omega)⟩
