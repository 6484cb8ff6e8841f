/-! cancel -/
theorem mg2_id2 {T z : RM} (h : ∀ r, r ≠ 0 → (r < 7 ∨ 12 < r) → z r = T r) (h0 : ∀ y, y ≠ 3 → z 0 y = T 0 y) : mgX2 T z = z := by
  funext r
  unfold mgX2
  by_cases hr : r = 0
  · subst hr
    funext y
    show cond (Nat.beq y 3) (z 0 y) (T 0 y) = z 0 y
    cases hb : Nat.beq y 3 with
    | true => rfl
    | false => exact (h0 y (fun e => by rw [e] at hb; exact absurd hb (by decide))).symm
  · have hb : Nat.beq r 0 = false := by
      cases hb : Nat.beq r 0 with
      | false => rfl
      | true => exact absurd (Nat.eq_of_beq_eq_true hb) hr
    rw [hb]
    show cond (Nat.ble 7 r && Nat.ble r 12) (z r) (T r) = z r
    cases hb2 : (Nat.ble 7 r && Nat.ble r 12) with
    | true => rfl
    | false =>
      refine (h r hr (Classical.byContradiction (fun q => ?_))).symm
      have e1 : Nat.ble 7 r = true := Nat.ble_eq_true_of_le (by omega)
      have e2 : Nat.ble r 12 = true := Nat.ble_eq_true_of_le (by omega)
      rw [e1, e2] at hb2
      exact absurd hb2 (by decide)
theorem mg4_id2 {T z : RM} (h : ∀ r, r ≠ 0 → (r < 15 ∨ 17 < r) → z r = T r) (h0 : ∀ y, y ≠ 5 → z 0 y = T 0 y) : mgX4 T z = z := by
  funext r
  unfold mgX4
  by_cases hr : r = 0
  · subst hr
    funext y
    show cond (Nat.beq y 5) (z 0 y) (T 0 y) = z 0 y
    cases hb : Nat.beq y 5 with
    | true => rfl
    | false => exact (h0 y (fun e => by rw [e] at hb; exact absurd hb (by decide))).symm
  · have hb : Nat.beq r 0 = false := by
      cases hb : Nat.beq r 0 with
      | false => rfl
      | true => exact absurd (Nat.eq_of_beq_eq_true hb) hr
    rw [hb]
    show cond (Nat.ble 15 r && Nat.ble r 17) (z r) (T r) = z r
    cases hb2 : (Nat.ble 15 r && Nat.ble r 17) with
    | true => rfl
    | false =>
      refine (h r hr (Classical.byContradiction (fun q => ?_))).symm
      have e1 : Nat.ble 15 r = true := Nat.ble_eq_true_of_le (by omega)
      have e2 : Nat.ble r 17 = true := Nat.ble_eq_true_of_le (by omega)
      rw [e1, e2] at hb2
      exact absurd hb2 (by decide)
theorem c_rm2 {N q nf : Nat} {T : RM} (hN : 24 < N) (hq : q < nf) (hnf : nf ≤ 24) (d3 : T 0 3 = nI nf) : F_X2_removeAt N T (nI q) = some (stF (u1 (u1 (u1 (u1 (u1 (u1 T 7 (rmA 24 (T 7) q 24)) 8 (rmA 24 (T 8) q 24)) 9 (rmA 24 (T 9) q 24)) 10 (rmA 24 (T 10) q 24)) 11 (rmA 24 (T 11) q 24)) 12 (rmA 24 (T 12) q 24)) 3 (nI (nf - 1))) := by
  have hr : ∀ f : Nat → Int32, F_X5_removeAt N 24 f (nI q) = some (rmA 24 f q 24) := fun f => c_rmAt (by omega) (by omega) (by omega)
  unfold F_X2_removeAt
  simp only [hr, Option.bind_some, jlet]
  show some (stF _ 3 (T 0 3 - 1)) = _
  rw [d3, show nI nf - 1 = nI (nf - 1) from zI_sub (b := 1) (by omega)]
  rfl
/-- the reference moves the later performances up -/
def cp4 (A : Nat → Int32) (k x : Nat) : Nat → Int32 := fun c => if 39 + 4 * k ≤ c ∧ c < 39 + 4 * k + x then A (c + 4) else A c
def shA (A : Nat → Int32) (q x : Nat) : Nat → Int32 := fun c => if 39 + 4 * q ≤ c ∧ c < 39 + 4 * x then A (c + 4) else if 135 + q ≤ c ∧ c < 135 + x then A (c + 1) else A c
theorem r_113 {N k : Nat} {k100 : RM → Int32 → Option (Int32 × RM)} {M : RM} (hk : k < 23) {n : Nat} (hn : 4 < n) : D_X9_cancels_113 N k100 n M (nI k) 0 = k100 (stA (u1 M 1 (cp4 (M 1) k 4)) 1 (nI (135 + k)) (M 1 (135 + k + 1))) (nI (k + 1)) := by
  have e0 : u1 M 1 (cp4 (M 1) k 0) = M := by
    rw [show cp4 (M 1) k 0 = M 1 from ?_, u1_id]
    funext c
    exact if_neg (by omega)
  have key := loopN (fun n a i => D_X9_cancels_113 N k100 n a (nI k) i) (fun i => u1 M 1 (cp4 (M 1) k i)) 4 (k100 (stA (u1 M 1 (cp4 (M 1) k 4)) 1 (nI (135 + k)) (M 1 (135 + k + 1))) (nI (k + 1)))
    (fun n => by
      show D_X9_cancels_113 N k100 (n + 1) (u1 M 1 (cp4 (M 1) k 4)) (nI k) (nI 4) = _
      have i1 : (135 : Int32) + nI k = nI (135 + k) := zI_add 135 k
      have i2 : nI (135 + k) + (1 : Int32) = nI (135 + k + 1) := zI_succ _
      have hr : u1 M 1 (cp4 (M 1) k 4) 1 (135 + k + 1) = M 1 (135 + k + 1) := by
        rw [u1_eq]
        exact if_neg (by omega)
      rw [D_X9_cancels_113, if_pos (by decide), i1, i2, if_pos (zI_inb (n := 135 + k + 1) (by omega) (by omega)), if_pos (zI_inb (n := 135 + k) (by omega) (by omega)), zI_nat (by omega), hr, zI_succ]
      rfl)
    (fun n i hi => by
      show D_X9_cancels_113 N k100 (n + 1) (u1 M 1 (cp4 (M 1) k i)) (nI k) (nI i) = D_X9_cancels_113 N k100 n (u1 M 1 (cp4 (M 1) k (i + 1))) (nI k) (nI (i + 1))
      have i1 : (((39 : Int32) + ((4 : Int32) * nI k)) + (4 : Int32)) + nI i = nI (39 + 4 * k + 4 + i) := by
        rw [show (4 : Int32) * nI k = nI (4 * k) from zI_mul 4 k, show (39 : Int32) + nI (4 * k) = nI (39 + 4 * k) from zI_add 39 (4 * k), show nI (39 + 4 * k) + (4 : Int32) = nI (39 + 4 * k + 4) from zI_add _ 4, zI_add]
      have i2 : ((39 : Int32) + ((4 : Int32) * nI k)) + nI i = nI (39 + 4 * k + i) := z_at 39 4 k i
      have hr : u1 M 1 (cp4 (M 1) k i) 1 (39 + 4 * k + 4 + i) = M 1 (39 + 4 * k + 4 + i) := by
        rw [u1_eq]
        exact if_neg (by omega)
      have hs : stA (u1 M 1 (cp4 (M 1) k i)) 1 (nI (39 + 4 * k + i)) (M 1 (39 + 4 * k + 4 + i)) = u1 M 1 (cp4 (M 1) k (i + 1)) := by
        unfold stA
        rw [zI_nat (by omega), u1_eq, u1_u1]
        congr 1
        funext c
        by_cases hc : c = 39 + 4 * k + i
        · rw [hc, upd_eq]
          unfold cp4
          rw [if_pos (by omega), show 39 + 4 * k + 4 + i = 39 + 4 * k + i + 4 by omega]
        · rw [upd_ne hc]
          unfold cp4
          by_cases h : 39 + 4 * k ≤ c ∧ c < 39 + 4 * k + i
          · rw [if_pos h, if_pos (by omega)]
          · rw [if_neg h, if_neg (by omega)]
      rw [D_X9_cancels_113, if_neg (show ¬ (4 : Int32) ≤ nI i from ile_f (a := 4) hi (by omega)), i1, i2, if_pos (zI_inb (n := 39 + 4 * k + 4 + i) (by omega) (by omega)), if_pos (zI_inb (n := 39 + 4 * k + i) (by omega) (by omega)), zI_nat (by omega), hr, zI_succ, jlet_eq, hs]) 4 n 0 (by omega) hn
  rw [e0] at key
  exact key
theorem r_100 {N q nf : Nat} {M : RM} (hN : 30 < N) (hq : q < nf) (hnf : nf ≤ 24) (h38 : M 1 38 = nI (nf - 1)) : ∀ (dd n x : Nat), x + dd = nf - 1 → dd < n → q ≤ x → D_X9_cancels_100 N n (u1 M 1 (shA (M 1) q x)) (nI x) = (F_X9_lacksRoom N (u1 M 1 (shA (M 1) q (nf - 1)))).bind (fun r11 => (F_X9_isHindered N r11.2 r11.1).bind (fun r12 => if r12.1 = 0 then some ((0 : Int32), r12.2) else some ((4 : Int32), r12.2))) := by
  have e38 : ∀ x, x ≤ 24 → u1 M 1 (shA (M 1) q x) 1 (38 : Int32).toNatClampNeg = nI (nf - 1) := fun x hx => by
    rw [u1_eq]
    show shA (M 1) q x 38 = _
    unfold shA
    rw [if_neg (by omega), if_neg (by omega)]
    exact h38
  intro dd
  induction dd with
  | zero =>
    intro n x hx hn hqx
    obtain ⟨n, rfl⟩ : ∃ k, n = k + 1 := ⟨n - 1, by omega⟩
    have hx : x = nf - 1 := by omega
    rw [hx, D_X9_cancels_100, if_pos (by decide), e38 _ (by omega), if_pos (ile_t (Nat.le_refl _) (by omega))]
  | succ dd ih =>
    intro n x hx hn hqx
    obtain ⟨n, rfl⟩ : ∃ k, n = k + 1 := ⟨n - 1, by omega⟩
    have hs : stA (u1 (u1 M 1 (shA (M 1) q x)) 1 (cp4 (u1 M 1 (shA (M 1) q x) 1) x 4)) 1 (nI (135 + x)) (u1 M 1 (shA (M 1) q x) 1 (135 + x + 1)) = u1 M 1 (shA (M 1) q (x + 1)) := by
      unfold stA
      rw [zI_nat (by omega), u1_eq, u1_eq, u1_u1, u1_u1]
      congr 1
      funext c
      by_cases hc : c = 135 + x
      · rw [hc, upd_eq]
        unfold shA
        rw [if_neg (by omega), if_neg (by omega), if_neg (by omega), if_pos (by omega)]
      · rw [upd_ne hc]
        unfold cp4
        by_cases h1 : 39 + 4 * x ≤ c ∧ c < 39 + 4 * x + 4
        · rw [if_pos h1]
          unfold shA
          rw [if_neg (by omega), if_neg (by omega), if_pos (by omega)]
        · rw [if_neg h1]
          unfold shA
          by_cases h2 : 39 + 4 * q ≤ c ∧ c < 39 + 4 * x
          · rw [if_pos h2, if_pos (by omega)]
          · rw [if_neg h2, if_neg (show ¬ (39 + 4 * q ≤ c ∧ c < 39 + 4 * (x + 1)) by omega)]
            by_cases h3 : 135 + q ≤ c ∧ c < 135 + x
            · rw [if_pos h3, if_pos (by omega)]
            · rw [if_neg h3, if_neg (by omega)]
    rw [D_X9_cancels_100, if_pos (by decide), e38 _ (by omega), if_neg (ile_f (by omega) (by omega)), r_113 (by omega) (by omega), hs]
    exact ih n (x + 1) (by omega) (by omega) (by omega)
def up1 (q k : Nat) : Nat := if k < q then k else k + 1
theorem shA_p {A : Nat → Int32} {q nf k i : Nat} (hq : q < nf) (hnf : nf ≤ 24) (hk : k < nf - 1) (hi : i < 4) : shA A q (nf - 1) (39 + 4 * k + i) = A (39 + 4 * up1 q k + i) := by
  unfold shA up1
  by_cases h : k < q
  · rw [if_neg (by omega), if_neg (by omega), if_pos h]
  · rw [if_pos (by omega), if_neg h]
    congr 1
    omega
theorem shA_h {A : Nat → Int32} {q nf k : Nat} (hq : q < nf) (hnf : nf ≤ 24) (hk : k < nf - 1) : shA A q (nf - 1) (135 + k) = A (135 + up1 q k) := by
  unfold shA up1
  by_cases h : k < q
  · rw [if_neg (by omega), if_neg (by omega), if_pos h]
  · rw [if_neg (by omega), if_pos (by omega), if_neg h]
    congr 1
theorem rmA_p {f : Nat → Int32} {q nf k : Nat} (hnf : nf ≤ 24) (hk : k < nf - 1) : rmA 24 f q 24 k = f (up1 q k) := by
  unfold up1
  by_cases h : k < q
  · rw [if_pos h, rmA_lt h]
  · rw [if_neg h, rmA_ge (by omega) (by omega)]
theorem up1_lt {q nf k : Nat} (hk : k < nf - 1) : up1 q k < nf := by
  unfold up1
  by_cases h : k < q
  · rw [if_pos h]; omega
  · rw [if_neg h]; omega
theorem up1_ne {q k : Nat} : up1 q k ≠ q := by
  unfold up1
  by_cases h : k < q
  · rw [if_pos h]; omega
  · rw [if_neg h]; omega
theorem up1_inj {q i j : Nat} (h : i ≠ j) : up1 q i ≠ up1 q j := by
  unfold up1
  by_cases h1 : i < q
  · by_cases h2 : j < q
    · rw [if_pos h1, if_pos h2]; exact h
    · rw [if_pos h1, if_neg h2]; omega
  · by_cases h2 : j < q
    · rw [if_neg h1, if_pos h2]; omega
    · rw [if_neg h1, if_neg h2]; omega
theorem up1_sur {q k nf : Nat} (hq : q < nf) (hk : k < nf) (h : k ≠ q) : ∃ j, j < nf - 1 ∧ up1 q j = k := by
  unfold up1
  rcases Nat.lt_or_ge k q with h1 | h1
  · exact ⟨k, by omega, if_pos h1⟩
  · refine ⟨k - 1, by omega, ?_⟩
    rw [if_neg (by omega)]
    omega
theorem heldS_c2 {A A' : Nat → Int32} {k k2 nu : Nat} (h1 : A' (135 + k) = A (135 + k2)) (h2 : ∀ u, u < nu → A' (160 + 2 * u) = A (160 + 2 * u)) : heldS A' k nu = heldS A k2 nu := by
  unfold heldS
  exact sumI_congr (fun u hu => by rw [h1, h2 u hu])
theorem jo_cancel : jO_cancel RSea := by
  intro T M hr v1
  obtain ⟨np, nf, nu, nr, hS⟩ := rs_M.mp hr
  have hS' := hS
  obtain ⟨⟨c1, c2, c3, c4, d1, d2, d3, d4, d5, d6, d7, d8⟩, htop, hpro, hper, hapt, hsub, hreq, hcrw⟩ := hS'
  rcases zI_idx (n := nf) (by omega) v1 with hz | ⟨ho, q, hq, rfl⟩
  · refine ⟨(-1, T), (1, M), ?_, ?_, op_no (by decide) (Or.inl ⟨rfl, rfl⟩)⟩
    · unfold F_X6_dropPerformance; rw [z_has2, Option.bind_some, d3, if_pos hz]
    · unfold F_X9_cancels; rw [z_isPerformance, Option.bind_some, d4, if_pos hz]
  have hne : ¬ jIn (nI q) 0 (nI nf - 1) = 0 := by rw [ho]; decide
  have hDC := dc_of hS
  have hZ := zsz_of hS
  obtain ⟨rm, hrm, hrmb⟩ := htop.2.2.2.1
  have t01 : T 0 1 = nI rm := htop.2.1.trans hrm
  obtain ⟨⟨a1, a2, a3, a4, a5, a6⟩, ⟨P, hP, p2⟩, ⟨d0, hd0, q2⟩, -, Sg, w, h, z, hSg, s2, w2, hh2, hz2, hzb, hwh⟩ := hper q hq
  have t7 : T 7 q = nI P := a1.trans p2
  have t9 : T 9 q = nI d0 := a3.trans q2
  obtain ⟨m, m1, m2, m3⟩ := hDC.1 P hP
  -- the reference's requests
  have hcut : rqA (M 1) nr = rqA (M 1) nr ++ dropL q [] := by rw [dropL, List.append_nil]
  have hAm : ∀ x, x ∈ rqA (M 1) nr → ∃ j, j < 24 ∧ x.1 = nI j := fun x hx => by
    obtain ⟨t, t1, t2⟩ := rqA_mem hx
    obtain ⟨-, ⟨j, j1, j2⟩, -⟩ := hreq.2 t t1
    exact ⟨j, by omega, by rw [t2]; exact j2⟩
  have hTm : ∀ x, x ∈ rqT T nr → ∃ j, j < 24 ∧ x.1 = nI j := fun x hx => by
    obtain ⟨t, t1, t2⟩ := rqT_mem hx
    obtain ⟨⟨j, j1, j2⟩, -⟩ := hreq.2 t t1
    exact ⟨j, by omega, by rw [t2]; exact j2⟩
  obtain ⟨M2, cA, g1, g2, g3, g4, g5, g6, g7⟩ := r_dropL (N := 3000) (q := q) (by omega) (by omega) nr 3000 (rqA (M 1) nr) [] (stF M 6 (nI w)) nr (by omega) (rqA_len _ _) c4 (by rw [stF_1]; exact d8) (by rw [stF_1]; exact hcut) hAm
  rw [List.append_nil] at g4
  have g7' : ∀ x, x < 180 → M2 1 x = M 1 x := fun x hx => by rw [g7 x hx, stF_1]
  have h38 : M2 1 38 = nI nf := (g7' 38 (by omega)).trans d4
  have hrf : F_X9_cancels 3000 M (nI q) = D_X9_cancels_100 3000 3000 (stA M2 1 (nI 38) (nI (nf - 1))) (nI q) := by
    unfold F_X9_cancels
    rw [z_isPerformance, Option.bind_some, d4, if_neg hne, z_p (v2 := 3) q 3 rfl rfl (by omega) (by omega), Option.bind_some, w2]
    rw [jlet_eq, if_pos (by decide), stF_1, show M 1 (180 : Int32).toNatClampNeg = nI nr from d8]
    refine g1.trans ?_
    rw [D_X9_cancels_31, if_pos (by decide), if_pos (by decide), if_pos (by decide), show M2 1 (38 : Int32).toNatClampNeg = nI nf from h38, jlet_eq, show nI nf - 1 = nI (nf - 1) from zI_sub (b := 1) (by omega)]
    rfl
  have n3 : Near M (stA M2 1 (nI 38) (nI (nf - 1))) := near_trans (near_trans (near_stF (Or.inl rfl)) g5) (near_stA (by omega))
  have r3 : stA M2 1 (nI 38) (nI (nf - 1)) 1 = upd (M2 1) 38 (nI (nf - 1)) := stA_1 (by omega)
  have s3 : stA M2 1 (nI 38) (nI (nf - 1)) 0 6 = nI w := by rw [stA_ne (by decide), g6, stF_eq]
  generalize stA M2 1 (nI 38) (nI (nf - 1)) = M3 at hrf n3 r3 s3
  have e0 : u1 M3 1 (shA (M3 1) q q) = M3 := by
    rw [show shA (M3 1) q q = M3 1 from ?_, u1_id]
    funext c
    unfold shA
    rw [if_neg (by omega), if_neg (by omega)]
  have h100 := r_100 (N := 3000) (q := q) (nf := nf) (M := M3) (by omega) hq c2 (by rw [r3, upd_eq]) (nf - 1 - q) 3000 q (by omega) (by omega) (Nat.le_refl q)
  rw [e0] at h100
  rw [h100] at hrf
  have n4 : Near M (u1 M3 1 (shA (M3 1) q (nf - 1))) := near_trans n3 (near_row (fun c hc => by
    unfold shA
    rw [if_neg (by omega), if_neg (by omega)]))
  have row : u1 M3 1 (shA (M3 1) q (nf - 1)) 1 = shA (M3 1) q (nf - 1) := u1_eq
  have s4 : u1 M3 1 (shA (M3 1) q (nf - 1)) 0 6 = nI w := by rw [u1_ne (by decide)]; exact s3
  generalize u1 M3 1 (shA (M3 1) q (nf - 1)) = M4 at hrf n4 row s4
  have aP : ∀ k i, k < nf - 1 → i < 4 → M4 1 (39 + 4 * k + i) = M 1 (39 + 4 * up1 q k + i) := fun k i hk hi => by
    have := up1_lt (q := q) hk
    rw [row, shA_p hq c2 hk hi, r3, upd_ne (by omega), g7' _ (by omega)]
  have aH : ∀ k, k < nf - 1 → M4 1 (135 + k) = M 1 (135 + up1 q k) := fun k hk => by
    have := up1_lt (q := q) hk
    rw [row, shA_h hq c2 hk, r3, upd_ne (by omega), g7' _ (by omega)]
  have aN : ∀ c, c < 39 → c ≠ 38 → M4 1 c = M 1 c := fun c h1 h2 => by
    rw [row]
    unfold shA
    rw [if_neg (by omega), if_neg (by omega), r3, upd_ne h2, g7' c (by omega)]
  have aU : ∀ c, 159 ≤ c → M4 1 c = M2 1 c := fun c h1 => by
    rw [row]
    unfold shA
    rw [if_neg (by omega), if_neg (by omega), r3, upd_ne (by omega)]
  have a38 : M4 1 38 = nI (nf - 1) := by
    rw [row]
    unfold shA
    rw [if_neg (by omega), if_neg (by omega), r3, upd_eq]
  have hDC' : DC (DW T (nI P) (nI (clr m d0))) (M4 1) np (nf - 1) := by
    refine ⟨fun p hp => ?_, fun k hk => ?_, fun i j hi hj hij he => ?_⟩
    · by_cases hpP : p = P
      · subst hpP
        refine ⟨clr m d0, if_pos rfl, clr_lt m2, fun e he => ?_⟩
        rw [clr_bit, Bool.and_eq_true, m3 e he, Bool.not_eq_true', decide_eq_false_iff_not]
        constructor
        · rintro ⟨⟨k, k1, k2, k3⟩, k4⟩
          have hkq : k ≠ q := fun e' => by
            rw [e', q2] at k3
            exact k4 ((zI_eq (by omega) (by omega)).mp k3)
          obtain ⟨j, j1, j2⟩ := up1_sur hq k1 hkq
          exact ⟨j, j1, by rw [aP j 0 j1 (by omega), j2]; exact k2, by rw [aP j 2 j1 (by omega), j2]; exact k3⟩
        · rintro ⟨j, j1, j2, j3⟩
          rw [aP j 0 j1 (by omega)] at j2
          rw [aP j 2 j1 (by omega)] at j3
          refine ⟨⟨up1 q j, up1_lt j1, j2, j3⟩, fun e' => ?_⟩
          exact hDC.2.2 (up1 q j) q (up1_lt j1) hq up1_ne (by rw [j3, q2, e']) (j2.trans p2.symm)
      · obtain ⟨mp, f1, f2, f3⟩ := hDC.1 p hp
        refine ⟨mp, (if_neg (ine hpP (by omega) (by omega))).trans f1, f2, fun e he => (f3 e he).trans ⟨?_, ?_⟩⟩
        · rintro ⟨k, k1, k2, k3⟩
          have hkq : k ≠ q := fun e' => by
            rw [e', p2] at k2
            exact hpP ((zI_eq (by omega) (by omega)).mp k2).symm
          obtain ⟨j, j1, j2⟩ := up1_sur hq k1 hkq
          exact ⟨j, j1, by rw [aP j 0 j1 (by omega), j2]; exact k2, by rw [aP j 2 j1 (by omega), j2]; exact k3⟩
        · rintro ⟨j, j1, j2, j3⟩
          rw [aP j 0 j1 (by omega)] at j2
          rw [aP j 2 j1 (by omega)] at j3
          exact ⟨up1 q j, up1_lt j1, j2, j3⟩
    · rw [aP k 0 hk (by omega), aP k 2 hk (by omega)]
      exact hDC.2.1 _ (up1_lt hk)
    · rw [aP i 2 hi (by omega), aP j 2 hj (by omega)] at he
      rw [aP i 0 hi (by omega), aP j 0 hj (by omega)]
      exact hDC.2.2 _ _ (up1_lt hi) (up1_lt hj) (up1_inj hij) he
  have hleft : rg 8 (T 6) (rg 24 (T 7) (nI q)) &&& (((1 : Int32) <<< ((rg 24 (T 9) (nI q)) &&& 31)) ^^^ (-1 : Int32)) = nI (clr m d0) := by
    rw [zI_rg (show q < 24 by omega) (by omega), zI_rg (show q < 24 by omega) (by omega), t7, t9, zI_rg (by omega) (by omega), m1, nI_clr m (by omega)]
  rcases room_both (N := 3000) (T := T) (M := M4) (c := nI P) (cd := nI (clr m d0)) (by omega) c1 (show nf - 1 ≤ 24 by omega) d1 ((aN 5 (by omega) (by omega)).trans d2) a38 hDC' (fun _ _ => rfl) ⟨fun p hp => (aN _ (by omega) (by omega)).trans (hZ.1 p hp), hZ.2⟩ hrmb ((aN 4 (by omega) (by omega)).trans hrm) with ⟨b1, b2⟩ | ⟨e, e1, e2, e3⟩
  · have T10 : u1 T 6 (upd (T 6) P (nI (clr m d0))) 0 3 = nI nf := d3
    have hrm2 := c_rm2 (N := 3000) (q := q) (nf := nf) (T := u1 T 6 (upd (T 6) P (nI (clr m d0)))) (by omega) hq c2 T10
    generalize hT1 : stF (u1 (u1 (u1 (u1 (u1 (u1 (u1 T 6 (upd (T 6) P (nI (clr m d0)))) 7 (rmA 24 (u1 T 6 (upd (T 6) P (nI (clr m d0))) 7) q 24)) 8 (rmA 24 (u1 T 6 (upd (T 6) P (nI (clr m d0))) 8) q 24)) 9 (rmA 24 (u1 T 6 (upd (T 6) P (nI (clr m d0))) 9) q 24)) 10 (rmA 24 (u1 T 6 (upd (T 6) P (nI (clr m d0))) 10) q 24)) 11 (rmA 24 (u1 T 6 (upd (T 6) P (nI (clr m d0))) 11) q 24)) 12 (rmA 24 (u1 T 6 (upd (T 6) P (nI (clr m d0))) 12) q 24)) 3 (nI (nf - 1)) = T1 at hrm2
    have k0 : ∀ y, y ≠ 3 → T1 0 y = T 0 y := fun y hy => by rw [← hT1, stF_o hy]; rfl
    have k3 : T1 0 3 = nI (nf - 1) := by rw [← hT1, stF_eq]
    have k6 : T1 6 = upd (T 6) P (nI (clr m d0)) := by rw [← hT1]; rfl
    have k7 : T1 7 = rmA 24 (T 7) q 24 := by rw [← hT1]; rfl
    have k8 : T1 8 = rmA 24 (T 8) q 24 := by rw [← hT1]; rfl
    have k9 : T1 9 = rmA 24 (T 9) q 24 := by rw [← hT1]; rfl
    have k10 : T1 10 = rmA 24 (T 10) q 24 := by rw [← hT1]; rfl
    have k11 : T1 11 = rmA 24 (T 11) q 24 := by rw [← hT1]; rfl
    have k12 : T1 12 = rmA 24 (T 12) q 24 := by rw [← hT1]; rfl
    have kj : ∀ r, r ≠ 0 → (r < 6 ∨ 12 < r) → T1 r = T r := fun r r0 hr => by
      rw [← hT1, stF_ne r0, u1_ne (by omega), u1_ne (by omega), u1_ne (by omega), u1_ne (by omega), u1_ne (by omega), u1_ne (by omega), u1_ne (by omega)]
    have hm2 : mgX2 (u1 T 6 (upd (T 6) P (nI (clr m d0)))) T1 = T1 := mg2_id2 (fun r r0 hr => by
      by_cases h6 : r = 6
      · rw [h6, k6]; rfl
      · rw [kj r r0 (by omega), u1_ne h6]) (fun y hy => (k0 y hy).trans rfl)
    have hl1 : rqT T1 nr = rqT T nr := by unfold rqT; rw [kj 15 (by decide) (by omega), kj 16 (by decide) (by omega), kj 17 (by decide) (by omega)]
    obtain ⟨T2, cT, o1, o2, o3, o4, o5, o6⟩ := c_dropL (N := 3000) (q := q) (by omega) (by omega) nr 3000 (rqT T nr) [] T1 nr (by omega) (rqT_len _ _) c4 ((k0 5 (by decide)).trans d7) (by rw [hl1, dropL, List.append_nil]) hTm
    rw [List.append_nil] at o4
    have hm4 : mgX4 T1 T2 = T2 := mg4_id2 (fun r r0 hr => o6 r r0 (by omega) (by omega) (by omega)) o5
    have hcl : F_X6_dropPerformance 3000 T (nI q) = some (nI w, T2) := by
      unfold F_X6_dropPerformance
      rw [z_has2, Option.bind_some, d3, if_neg hne, jlet_eq, hleft, t01, zI_rg (show q < 24 by omega) (by omega), t7, b1, Option.bind_some, if_pos rfl, jlet_eq, zI_rs (by omega) (by omega), hrm2, Option.bind_some, jlet_eq, hm2]
      have hd : F_X4_dropPerformance 3000 T1 (nI q) = some T2 := by
        unfold F_X4_dropPerformance
        rw [k0 5 (by decide), d7]
        exact o1
      rw [hd, Option.bind_some, jlet_eq, hm4, zI_rg (show q < 24 by omega) (by omega), a4, w2]
    have hAf : rqA (M4 1) cA = dropL q (rqA (M 1) nr) := by
      rw [← g4]
      unfold rqA
      refine List.map_congr_left (fun t ht => ?_)
      rw [aU _ (by omega), aU _ (by omega), aU _ (by omega)]
    obtain ⟨hcc, hreq'⟩ := RReq_drop c2 hq hreq o4 hAf
    subst hcc
    rw [b2, Option.bind_some, z_hin0, Option.bind_some, if_pos rfl] at hrf
    refine ⟨(nI w, T2), (0, M4), hcl, hrf, op_ok (by decide) n4 (zI_pos (by omega)) s4 ⟨np, nf - 1, nu, cT, ⟨c1, by omega, c3, by omega, (o5 2 (by decide)).trans ((k0 2 (by decide)).trans d1), (aN 5 (by omega) (by omega)).trans d2, (o5 3 (by decide)).trans k3, a38, (o5 4 (by decide)).trans ((k0 4 (by decide)).trans d5), (aU 159 (by omega)).trans ((g7' 159 (by omega)).trans d6), o3, (aU 180 (by omega)).trans g3⟩, RTop_c ((o5 0 (by decide)).trans (k0 0 (by decide))) ((o5 1 (by decide)).trans (k0 1 (by decide))) ((o6 1 (by decide) (by decide) (by decide) (by decide)).trans (kj 1 (by decide) (by omega))) (fun x hx => aN x (by omega) (by omega)) htop, fun p hp => ?_, fun k hk => ?_, fun i j hi hj hij he => ?_, RSub_c (fun _ _ => by rw [o6 13 (by decide) (by decide) (by decide) (by decide), kj 13 (by decide) (by omega)]) (fun _ _ => by rw [o6 14 (by decide) (by decide) (by decide) (by decide), kj 14 (by decide) (by omega)]) (fun u hu => ⟨(aU _ (by omega)).trans (g7' _ (by omega)), (aU _ (by omega)).trans (g7' _ (by omega))⟩) hsub, hreq', fun d hd => ?_⟩⟩
    · obtain ⟨⟨x1, x2, x3, x4⟩, ⟨y1, y2, y3, y4⟩, -⟩ := hpro p hp
      obtain ⟨m', f1, f2, f3⟩ := hDC'.1 p hp
      rw [o6 2 (by decide) (by decide) (by decide) (by decide), kj 2 (by decide) (by omega), o6 3 (by decide) (by decide) (by decide) (by decide), kj 3 (by decide) (by omega), o6 4 (by decide) (by decide) (by decide) (by decide), kj 4 (by decide) (by omega), o6 5 (by decide) (by decide) (by decide) (by decide), kj 5 (by decide) (by omega), o6 6 (by decide) (by decide) (by decide) (by decide), k6, aN (6 + 4 * p + 0) (by omega) (by omega), aN (6 + 4 * p + 1) (by omega) (by omega), aN (6 + 4 * p + 2) (by omega) (by omega), aN (6 + 4 * p + 3) (by omega) (by omega)]
      exact ⟨⟨x1, x2, x3, x4⟩, ⟨y1, y2, y3, y4⟩, m', (DW_upd (by omega) (by omega)).trans f1, f2, f3⟩
    · obtain ⟨⟨x1, x2, x3, x4, x5, x6⟩, y1, y2, y3, s', w', h', z', f1, f2, f3, f4, f5, f6, f7⟩ := hper (up1 q k) (up1_lt hk)
      have hh : heldS (M4 1) k nu = heldS (M 1) (up1 q k) nu := heldS_c2 (aH k hk) (fun u hu => (aU _ (by omega)).trans (g7' _ (by omega)))
      rw [o6 7 (by decide) (by decide) (by decide) (by decide), k7, o6 8 (by decide) (by decide) (by decide) (by decide), k8, o6 9 (by decide) (by decide) (by decide) (by decide), k9, o6 10 (by decide) (by decide) (by decide) (by decide), k10, o6 11 (by decide) (by decide) (by decide) (by decide), k11, o6 12 (by decide) (by decide) (by decide) (by decide), k12, rmA_p c2 hk, rmA_p c2 hk, rmA_p c2 hk, rmA_p c2 hk, rmA_p c2 hk, rmA_p c2 hk, hh, aH k hk, aP k 0 hk (by omega), aP k 1 hk (by omega), aP k 2 hk (by omega), aP k 3 hk (by omega)]
      exact ⟨⟨x1, x2, x3, x4, x5, x6⟩, y1, y2, y3, s', w', h', z', f1, f2, f3, f4, by rw [aN s' (by omega) (by omega)]; exact f5, f6, f7⟩
    · rw [aP i 2 hi (by omega), aP j 2 hj (by omega)] at he
      rw [aP i 0 hi (by omega), aP j 0 hj (by omega), aP i 1 hi (by omega), aP j 1 hj (by omega)]
      exact hapt _ _ (up1_lt hi) (up1_lt hj) (up1_inj hij) he
    · rw [o6 6 (by decide) (by decide) (by decide) (by decide), k6, o6 3 (by decide) (by decide) (by decide) (by decide), kj 3 (by decide) (by omega), o5 0 (by decide), k0 0 (by decide)]
      refine Nat.le_trans (sumN_le (fun p hp => ?_)) (hcrw d hd)
      show (if (nv (upd (T 6) P (nI (clr m d0)) p)).testBit d = true then nv (T 3 p) else 0) ≤ if (nv (T 6 p)).testBit d = true then nv (T 3 p) else 0
      by_cases hpP : p = P
      · rw [hpP, upd_eq, m1, nv_nI (by have := clr_lt (d := d0) m2; omega), nv_nI (by omega), clr_bit]
        cases m.testBit d with
        | true => rw [if_pos rfl]; cases decide (d0 = d) with
          | true => exact Nat.zero_le _
          | false => exact Nat.le_refl _
        | false => exact Nat.le_refl _
      · rw [upd_ne hpP]; exact Nat.le_refl _
  · refine ⟨(jRef (nI 3) (nI e), T), (4, stF (stF (stF (stF M4 7 (nI 3)) 8 (nI e)) 4 (nI 3)) 5 (nI e)), ?_, ?_, op_ref (by decide) (near_trans n4 (near_trans (near_stF (Or.inr (Or.inl rfl))) (near_stF (Or.inr (Or.inr rfl))))) (by omega) (by omega) (by omega)⟩
    · unfold F_X6_dropPerformance
      rw [z_has2, Option.bind_some, d3, if_neg hne, jlet_eq, hleft, t01, zI_rg (show q < 24 by omega) (by omega), t7, e2, Option.bind_some, if_neg (show ¬ jRef 3 (nI e) = 0 from jRef_ne0 (a := 3) (by omega) (by omega) (by omega))]
      rfl
    · rw [hrf, e3, Option.bind_some]
      show (F_X9_isHindered 3000 (stF (stF M4 7 (nI 3)) 8 (nI e)) 1).bind _ = _
      rw [z_hinW, Option.bind_some, if_neg (show ¬ (1 : Int32) = 0 by decide)]
