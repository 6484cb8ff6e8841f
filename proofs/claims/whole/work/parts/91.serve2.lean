/-! requests are served, on both sides -/
theorem z_free1 {N : Nat} (hN : 10 < N) {T M : RM} {np nf nu nr k : Nat} (hS : RS4 T (M 1) np nf nu nr) (hk : k < nf) :
    ∃ s w h z : Nat, s < 3 ∧ z ≤ 99 ∧ w + h ≤ z ∧ T 8 k = nI s ∧ T 10 k = nI w ∧ T 11 k = nI h ∧ T 1 s = nI z ∧ M 1 (39 + 4 * k + 3) = nI w ∧ M 1 (39 + 4 * k + 1) = nI s ∧ heldS (M 1) k nu = nI h ∧ M 1 s = nI z ∧ F_X9_heldAt N M (nI k) = some (nI h) ∧ F_X9_freeAt N M (nI k) = some (nI (z - (w + h))) ∧ F_X2_taken N T (nI k) = some (nI (w + h)) ∧ F_X6_seatsAt N T (nI k) 2 = some (nI (z - (w + h))) := by
  obtain ⟨⟨c1, c2, c3, c4, d1, d2, d3, d4, d5, d6, d7, d8⟩, htop, hpro, hper, hapt, hsub, hreq, hcrw⟩ := hS
  obtain ⟨⟨a1, a2, a3, a4, a5, a6⟩, -, -, -, s, w, h, z, e1, e2, e3, e4, e5, e6, e7⟩ := hper k hk
  obtain ⟨t1, -⟩ := htop.2.2.2.2 s e1
  have hheld : F_X9_heldAt N M (nI k) = some (nI h) := by rw [z_heldAt rfl d6 c3 (by omega) (by omega), e4]
  have q10 : T 10 k = nI w := a4.trans e3
  have q11 : T 11 k = nI h := a5.trans e4
  have q8 : T 8 k = nI s := a2.trans e2
  have htk : F_X2_taken N T (nI k) = some (nI (w + h)) := by
    unfold F_X2_taken
    rw [zI_rg (by omega) (by omega), zI_rg (by omega) (by omega), q10, q11, zI_add]
  refine ⟨s, w, h, z, e1, e6, e7, q8, q10, q11, t1.trans e5, e3, e2, e4, e5, hheld, ?_, htk, ?_⟩
  · unfold F_X9_freeAt
    rw [z_p (v2 := 1) k 1 rfl rfl (by omega) (by omega), Option.bind_some, e2, show (0 : Int32) + nI s = nI s from Int32.zero_add _, if_pos (zI_inb (by omega) (by omega)), z_p (v2 := 3) k 3 rfl rfl (by omega) (by omega), Option.bind_some, hheld, Option.bind_some, e3, zI_nat (by omega), e5, zI_sub (by omega), zI_sub (by omega)]
    rw [Nat.sub_sub]
  · unfold F_X6_seatsAt
    rw [if_neg (by decide), if_neg (by decide), htk, Option.bind_some, zI_rg (by omega) (by omega), q8, zI_rg (by omega) (by omega), t1, e5, zI_sub e7]
/-- other seats sold at a performance, other requests -/
theorem RS4_sold {T T' : RM} {A A' : Nat → Int32} {np nf nu nr nr' k w' : Nat} (hS : RS4 T A np nf nu nr) (hk : k < nf) (hnr' : nr' ≤ 20) (t0 : ∀ x, x ≠ 5 → T' 0 x = T 0 x) (t5 : T' 0 5 = nI nr') (tj : ∀ r, r ≠ 0 → r ≠ 10 → r ≠ 15 → r ≠ 16 → r ≠ 17 → T' r = T r) (t10 : T' 10 = upd (T 10) k (nI w')) (aN : ∀ c, c < 180 → c ≠ 39 + 4 * k + 3 → A' c = A c) (aS : A' (39 + 4 * k + 3) = nI w') (a180 : A' 180 = nI nr') (hreq' : RReq T' A' nf nr')
    (hw : ∃ s h z, s < 3 ∧ A (39 + 4 * k + 1) = nI s ∧ heldS A k nu = nI h ∧ A s = nI z ∧ z ≤ 99 ∧ w' + h ≤ z) : RS4 T' A' np nf nu nr' := by
  obtain ⟨⟨c1, c2, c3, c4, d1, d2, d3, d4, d5, d6, d7, d8⟩, htop, hpro, hper, hapt, hsub, hreq, hcrw⟩ := hS
  refine ⟨⟨c1, c2, c3, hnr', (t0 2 (by decide)).trans d1, (aN 5 (by omega) (by omega)).trans d2, (t0 3 (by decide)).trans d3, (aN 38 (by omega) (by omega)).trans d4, (t0 4 (by decide)).trans d5, (aN 159 (by omega) (by omega)).trans d6, t5, a180⟩, RTop_c (t0 0 (by decide)) (t0 1 (by decide)) (tj 1 (by decide) (by decide) (by decide) (by decide) (by decide)) (fun x hx => aN x (by omega) (by omega)) htop,
    RPro_c2 c1 (tj 2 (by decide) (by decide) (by decide) (by decide) (by decide)) (tj 3 (by decide) (by decide) (by decide) (by decide) (by decide)) (tj 4 (by decide) (by decide) (by decide) (by decide) (by decide)) (tj 5 (by decide) (by decide) (by decide) (by decide) (by decide)) (tj 6 (by decide) (by decide) (by decide) (by decide) (by decide)) (fun x h1 h2 => aN x (by omega) (by omega)) (fun i hi => ⟨aN _ (by omega) (by omega), aN _ (by omega) (by omega)⟩) hpro, fun i hi => ?_, RApt_c2 (fun i hi => ⟨aN _ (by omega) (by omega), aN _ (by omega) (by omega), aN _ (by omega) (by omega)⟩) hapt,
    RSub_c (fun _ _ => by rw [tj 13 (by decide) (by decide) (by decide) (by decide) (by decide)]) (fun _ _ => by rw [tj 14 (by decide) (by decide) (by decide) (by decide) (by decide)]) (fun u hu => ⟨aN _ (by omega) (by omega), aN _ (by omega) (by omega)⟩) hsub, hreq', fun d hd => ?_⟩
  · have hh : heldS A' i nu = heldS A i nu := heldS_c (aN _ (by omega) (by omega)) (fun u hu => aN _ (by omega) (by omega))
    obtain ⟨⟨a1, a2, a3, a4, a5, a6⟩, b1, b2, b3, s', w2, h', z', g1, g2, g3, g4, g5, g6, g7⟩ := hper i hi
    rw [tj 7 (by decide) (by decide) (by decide) (by decide) (by decide), tj 8 (by decide) (by decide) (by decide) (by decide) (by decide), tj 9 (by decide) (by decide) (by decide) (by decide) (by decide), tj 11 (by decide) (by decide) (by decide) (by decide) (by decide), tj 12 (by decide) (by decide) (by decide) (by decide) (by decide), t10, aN (39 + 4 * i + 0) (by omega) (by omega), aN (39 + 4 * i + 1) (by omega) (by omega), aN (39 + 4 * i + 2) (by omega) (by omega), aN (135 + i) (by omega) (by omega), hh]
    by_cases hik : i = k
    · subst hik
      obtain ⟨s, h, z, w1, w2', w3, w4, w5, w6⟩ := hw
      rw [aS, upd_eq]
      exact ⟨⟨a1, a2, a3, rfl, a5, a6⟩, b1, b2, b3, s, w', h, z, w1, w2', rfl, w3, by rw [aN s (by omega) (by omega)]; exact w4, w5, w6⟩
    · rw [aN (39 + 4 * i + 3) (by omega) (by omega), upd_ne hik]
      exact ⟨⟨a1, a2, a3, a4, a5, a6⟩, b1, b2, b3, s', w2, h', z', g1, g2, g3, g4, by rw [aN s' (by omega) (by omega)]; exact g5, g6, g7⟩
  · rw [tj 6 (by decide) (by decide) (by decide) (by decide) (by decide), tj 3 (by decide) (by decide) (by decide) (by decide) (by decide), t0 0 (by decide)]
    exact hcrw d hd
theorem serve_loop {np nf nu k : Nat} (hk : k < nf) : ∀ (nr n1 n2 sv : Nat) (T M : RM), RS4 T (M 1) np nf nu nr → sv + nr ≤ 20 → nr < n1 → nr < n2 → ∃ (nr' : Nat) (T' M' : RM), D_X6_serveRequests_2 3000 n1 T (nI k) (nI sv) = some T' ∧ (F_X9_requestAt 3000 M (nI k) 0).bind (fun r => D_X9_serves_7 3000 n2 M (nI k) r) = some M' ∧ Near M M' ∧ (∀ x, M' 0 x = M 0 x) ∧ RS4 T' (M' 1) np nf nu nr' ∧ (∀ r, r ≠ 0 → r ≠ 10 → r ≠ 15 → r ≠ 16 → r ≠ 17 → T' r = T r) ∧ ∀ c, c < 180 → c ≠ 39 + 4 * k + 3 → M' 1 c = M 1 c := by
  intro nr
  induction nr with
  | zero =>
    intro n1 n2 sv T M hS hsv h1 h2
    obtain ⟨n1, rfl⟩ : ∃ k, n1 = k + 1 := ⟨n1 - 1, by omega⟩
    obtain ⟨n2, rfl⟩ : ∃ k, n2 = k + 1 := ⟨n2 - 1, by omega⟩
    have hS' := hS
    obtain ⟨⟨c1, c2, c3, c4, d1, d2, d3, d4, d5, d6, d7, d8⟩, htop, hpro, hper, hapt, hsub, hreq, hcrw⟩ := hS'
    rcases z_find (N := 3000) (p := 0) (by omega) c4 d7 d8 (by omega) hreq hk with ⟨-, x2, x3⟩ | ⟨i, q, i1, -⟩
    · have x2 : F_X4_find 3000 T (nI k) 0 = some (-1) := x2
      have x3 : F_X9_requestAt 3000 M (nI k) 0 = some (-1) := x3
      refine ⟨0, T, M, ?_, ?_, near_refl M, fun _ => rfl, hS, fun _ _ _ _ _ _ => rfl, fun _ _ _ => rfl⟩
      · rw [D_X6_serveRequests_2, x2, Option.bind_some, if_pos rfl, ite_self]
      · rw [x3, Option.bind_some, D_X9_serves_7, if_pos rfl]
    · omega
  | succ m ih =>
    intro n1 n2 sv T M hS hsv h1 h2
    obtain ⟨n1, rfl⟩ : ∃ k, n1 = k + 1 := ⟨n1 - 1, by omega⟩
    obtain ⟨n2, rfl⟩ : ∃ k, n2 = k + 1 := ⟨n2 - 1, by omega⟩
    have hS' := hS
    obtain ⟨⟨c1, c2, c3, c4, d1, d2, d3, d4, d5, d6, d7, d8⟩, htop, hpro, hper, hapt, hsub, hreq, hcrw⟩ := hS'
    have h20 : ¬ (20 : Int32) ≤ nI sv := ile_f (a := 20) (by omega) (by omega)
    rcases z_find (N := 3000) (p := 0) (by omega) c4 d7 d8 (by omega) hreq hk with ⟨-, x2, x3⟩ | ⟨i, q, i1, q1, x2, x3, t15, a0, a1, a2, hcut⟩
    · have x2 : F_X4_find 3000 T (nI k) 0 = some (-1) := x2
      have x3 : F_X9_requestAt 3000 M (nI k) 0 = some (-1) := x3
      refine ⟨m + 1, T, M, ?_, ?_, near_refl M, fun _ => rfl, hS, fun _ _ _ _ _ _ => rfl, fun _ _ _ => rfl⟩
      · rw [D_X6_serveRequests_2, x2, Option.bind_some, if_pos rfl, ite_self]
      · rw [x3, Option.bind_some, D_X9_serves_7, if_pos rfl]
    · have x2 : F_X4_find 3000 T (nI k) 0 = some (nI i) := x2
      have x3 : F_X9_requestAt 3000 M (nI k) 0 = some (nI q) := x3
      obtain ⟨s, w, h, z, f1, f2, f3, f4, f5, f6, f7, f8, f9, f10, f11, f12, f13, f14, f15⟩ := z_free1 (N := 3000) (by omega) hS hk
      obtain ⟨-, -, ⟨wq, e1, e2, e3⟩, -⟩ := hreq.2 q q1
      have t16 : T 16 i = nI wq := a1.trans e1
      have hne1 : ¬ nI i = -1 := zI_ne_neg (by omega)
      have hne2 : ¬ nI q = -1 := zI_ne_neg (by omega)
      have i3 : ((39 : Int32) + ((4 : Int32) * nI k)) + 3 = nI (39 + 4 * k + 3) := z_at 39 4 k 3
      by_cases hf : wq ≤ z - (w + h)
      · have g5 : u1 T 10 (upd (T 10) k (nI (w + wq))) 0 5 = nI (m + 1) := d7
        have hc4 := c_rm4 (N := 3000) (i := i) (nr := m + 1) (T := u1 T 10 (upd (T 10) k (nI (w + wq)))) (by omega) i1 c4 g5
        have hcls : D_X6_serveRequests_2 3000 (n1 + 1) T (nI k) (nI sv) = D_X6_serveRequests_2 3000 n1 (mgX4 (u1 T 10 (upd (T 10) k (nI (w + wq)))) (stF (u1 (u1 (u1 (u1 T 10 (upd (T 10) k (nI (w + wq)))) 15 (rmA 20 (T 15) i 20)) 16 (rmA 20 (T 16) i 20)) 17 (rmA 20 (T 17) i 20)) 5 (nI m))) (nI k) (nI (sv + 1)) := by
          rw [D_X6_serveRequests_2, if_neg h20, x2, Option.bind_some, if_neg hne1, f15, Option.bind_some, zI_rg (by omega) (by omega), t16, if_pos (ile_t hf (by omega)), zI_rg (by omega) (by omega), f5, zI_add, zI_rs (by omega) (by omega)]
          simp only [jlet]
          rw [hc4, Option.bind_some, zI_succ]
          rfl
        generalize hT1 : mgX4 (u1 T 10 (upd (T 10) k (nI (w + wq)))) (stF (u1 (u1 (u1 (u1 T 10 (upd (T 10) k (nI (w + wq)))) 15 (rmA 20 (T 15) i 20)) 16 (rmA 20 (T 16) i 20)) 17 (rmA 20 (T 17) i 20)) 5 (nI m)) = T1 at hcls
        have p0 : ∀ x, x ≠ 5 → T1 0 x = T 0 x := fun x hx => by
          rw [← hT1]
          show cond (Nat.beq x 5) _ (T 0 x) = T 0 x
          have hb : Nat.beq x 5 = false := by
            cases hb : Nat.beq x 5 with
            | false => rfl
            | true => exact absurd (Nat.eq_of_beq_eq_true hb) hx
          rw [hb]
          rfl
        have p5 : T1 0 5 = nI m := by rw [← hT1]; rfl
        have p10 : T1 10 = upd (T 10) k (nI (w + wq)) := by rw [← hT1]; rfl
        have p15 : T1 15 = rmA 20 (T 15) i 20 := by rw [← hT1]; rfl
        have p16 : T1 16 = rmA 20 (T 16) i 20 := by rw [← hT1]; rfl
        have p17 : T1 17 = rmA 20 (T 17) i 20 := by rw [← hT1]; rfl
        have pj : ∀ r, r ≠ 0 → r ≠ 10 → r ≠ 15 → r ≠ 16 → r ≠ 17 → T1 r = T r := fun r r0 r10 r15 r16 r17 => by
          rw [← hT1]
          show cond (Nat.beq r 0) _ (cond (Nat.ble 15 r && Nat.ble r 17) _ _) = T r
          have hb : Nat.beq r 0 = false := by
            cases hb : Nat.beq r 0 with
            | false => rfl
            | true => exact absurd (Nat.eq_of_beq_eq_true hb) r0
          have hb2 : (Nat.ble 15 r && Nat.ble r 17) = false := by
            cases hb2 : (Nat.ble 15 r && Nat.ble r 17) with
            | false => rfl
            | true =>
              rw [Bool.and_eq_true] at hb2
              have b1 := Nat.le_of_ble_eq_true hb2.1
              have b2 := Nat.le_of_ble_eq_true hb2.2
              omega
          rw [hb, hb2]
          exact u1_ne r10
        have m6 : stA M 1 (nI (39 + 4 * k + 3)) (nI (w + wq)) 1 = upd (M 1) (39 + 4 * k + 3) (nI (w + wq)) := stA_1 (by omega)
        have hto := r_takesOut (N := 3000) (q := q) (nr := m + 1) (M := stA M 1 (nI (39 + 4 * k + 3)) (nI (w + wq))) (by omega) q1 c4 (by rw [m6, upd_ne (by omega)]; exact d8)
        have href : (F_X9_requestAt 3000 M (nI k) 0).bind (fun r => D_X9_serves_7 3000 (n2 + 1) M (nI k) r) = (F_X9_requestAt 3000 (u1 (stA M 1 (nI (39 + 4 * k + 3)) (nI (w + wq))) 1 (toA (stA M 1 (nI (39 + 4 * k + 3)) (nI (w + wq)) 1) q (m + 1) (3 * (m + 1 - 1)))) (nI k) 0).bind (fun r => D_X9_serves_7 3000 n2 (u1 (stA M 1 (nI (39 + 4 * k + 3)) (nI (w + wq))) 1 (toA (stA M 1 (nI (39 + 4 * k + 3)) (nI (w + wq)) 1) q (m + 1) (3 * (m + 1 - 1)))) (nI k) r) := by
          rw [x3, Option.bind_some, D_X9_serves_7, if_neg hne2, z_r (v2 := 1) q 1 rfl rfl (by omega) (by omega), Option.bind_some, f13, Option.bind_some, e1, if_neg (fun q => absurd ((zI_lt (by omega) (by omega)).mp q) (by omega)), i3, if_pos (zI_inb (by omega) (by omega)), Option.bind_some, if_pos (zI_inb (by omega) (by omega)), zI_nat (by omega), f8, zI_add]
          simp only [jlet]
          rw [hto, Option.bind_some]
        have n1' : Near M (u1 (stA M 1 (nI (39 + 4 * k + 3)) (nI (w + wq))) 1 (toA (stA M 1 (nI (39 + 4 * k + 3)) (nI (w + wq)) 1) q (m + 1) (3 * (m + 1 - 1)))) := by
          refine near_trans (near_stA (by omega)) (near_row (fun c hc => ?_))
          unfold toA
          rw [if_neg (by omega), if_neg (by omega)]
        have row : u1 (stA M 1 (nI (39 + 4 * k + 3)) (nI (w + wq))) 1 (toA (stA M 1 (nI (39 + 4 * k + 3)) (nI (w + wq)) 1) q (m + 1) (3 * (m + 1 - 1))) 1 = toA (upd (M 1) (39 + 4 * k + 3) (nI (w + wq))) q (m + 1) (3 * (m + 1 - 1)) := by rw [u1_eq, m6]
        have sc : ∀ x, u1 (stA M 1 (nI (39 + 4 * k + 3)) (nI (w + wq))) 1 (toA (stA M 1 (nI (39 + 4 * k + 3)) (nI (w + wq)) 1) q (m + 1) (3 * (m + 1 - 1))) 0 x = M 0 x := fun x => by rw [u1_ne (by decide), stA_ne (by decide)]
        generalize u1 (stA M 1 (nI (39 + 4 * k + 3)) (nI (w + wq))) 1 (toA (stA M 1 (nI (39 + 4 * k + 3)) (nI (w + wq)) 1) q (m + 1) (3 * (m + 1 - 1))) = M1 at href n1' row sc
        have aN : ∀ c, c < 180 → c ≠ 39 + 4 * k + 3 → M1 1 c = M 1 c := fun c h1 h2 => by
          rw [row]
          unfold toA
          rw [if_neg (by omega), if_neg (by omega), upd_ne h2]
        have aS : M1 1 (39 + 4 * k + 3) = nI (w + wq) := by
          rw [row]
          unfold toA
          rw [if_neg (by omega), if_neg (by omega), upd_eq]
        have a180 : M1 1 180 = nI m := by
          rw [row]
          unfold toA
          rw [if_neg (by omega), if_pos rfl]
          rfl
        have aR : ∀ c, 181 ≤ c → c < 181 + 3 * (m + 1 - 1) → M1 1 c = if c < 181 + 3 * q then M 1 c else M 1 (c + 3) := fun c h1 h2 => by
          rw [row]
          unfold toA
          by_cases hc : c < 181 + 3 * q
          · rw [if_neg (by omega), if_neg (by omega), if_pos hc, upd_ne (by omega)]
          · rw [if_pos (by omega), if_neg hc, upd_ne (by omega)]
        have hreq1 : RReq T1 (M1 1) nf m := RReq_rm (nr := m + 1) c2 c4 hk i1 q1 hreq t15 a0 p15 p16 p17 aR hcut
        have hS1 : RS4 T1 (M1 1) np nf nu m := RS4_sold hS hk (by omega) p0 p5 pj p10 aN aS a180 hreq1 ⟨s, h, z, f1, f9, f10, f11, f2, by omega⟩
        obtain ⟨nr', T', M', r1, r2, r3, r4, r5, r6, r7⟩ := ih n1 n2 (sv + 1) T1 M1 hS1 (by omega) (by omega) (by omega)
        exact ⟨nr', T', M', hcls.trans r1, href.trans r2, near_trans n1' r3, fun x => (r4 x).trans (sc x), r5, fun r a b c d e => (r6 r a b c d e).trans (pj r a b c d e), fun c h1 h2 => (r7 c h1 h2).trans (aN c h1 h2)⟩
      · refine ⟨m + 1, T, M, ?_, ?_, near_refl M, fun _ => rfl, hS, fun _ _ _ _ _ _ => rfl, fun _ _ _ => rfl⟩
        · rw [D_X6_serveRequests_2, if_neg h20, x2, Option.bind_some, if_neg hne1, f15, Option.bind_some, zI_rg (by omega) (by omega), t16, if_neg (ile_f (by omega) (by omega))]
        · rw [x3, Option.bind_some, D_X9_serves_7, if_neg hne2, z_r (v2 := 1) q 1 rfl rfl (by omega) (by omega), Option.bind_some, f13, Option.bind_some, e1, if_pos ((zI_lt (by omega) (by omega)).mpr (by omega))]
theorem z_serve {T M : RM} {np nf nu nr k : Nat} (hk : k < nf) (hS : RS4 T (M 1) np nf nu nr) : ∃ (nr' : Nat) (T' M' : RM), F_X6_serveRequests 3000 T (nI k) = some T' ∧ F_X9_serves 3000 M (nI k) = some M' ∧ Near M M' ∧ (∀ x, M' 0 x = M 0 x) ∧ RS4 T' (M' 1) np nf nu nr' ∧ (∀ r, r ≠ 0 → r ≠ 10 → r ≠ 15 → r ≠ 16 → r ≠ 17 → T' r = T r) ∧ ∀ c, c < 180 → c ≠ 39 + 4 * k + 3 → M' 1 c = M 1 c := by
  have h := hS.1.2.2.2.1
  exact serve_loop hk nr 3000 3000 0 T M hS (by omega) (by omega) (by omega)
/-! refund -/
theorem jo_refund : jO_refund RSea := by
  intro T M hr v1 v2
  obtain ⟨np, nf, nu, nr, hS⟩ := rs_M.mp hr
  have hS' := hS
  obtain ⟨⟨c1, c2, c3, c4, d1, d2, d3, d4, d5, d6, d7, d8⟩, htop, hpro, hper, hapt, hsub, hreq, hcrw⟩ := hS'
  rcases zI_idx (n := nf) (by omega) v1 with hz | ⟨ho, k, hk, rfl⟩
  · refine ⟨(-1, T), (1, M), ?_, ?_, op_no (by decide) (Or.inl ⟨rfl, rfl⟩)⟩
    · unfold F_X6_refundSeats; rw [z_has2, Option.bind_some, d3, if_pos hz]
    · unfold F_X9_refunds; rw [z_isPerformance, Option.bind_some, d4, if_pos hz]
  have hne : ¬ jIn (nI k) 0 (nI nf - 1) = 0 := by rw [ho]; decide
  by_cases hv : jIn v2 1 99 = 0
  · refine ⟨(-2, T), (2, M), ?_, ?_, op_no (by decide) (Or.inr (Or.inl ⟨rfl, rfl⟩))⟩
    · unfold F_X6_refundSeats; rw [z_has2, Option.bind_some, d3, if_neg hne, if_pos hv]
    · unfold F_X9_refunds; rw [z_isPerformance, Option.bind_some, d4, if_neg hne, z_in, Option.bind_some, if_pos hv]
  obtain ⟨z2, rfl, y1, y2⟩ := zI_btw (a := 1) (b := 99) (by decide) (by decide) (Decidable.not_not.mp (fun q => hv (jIn_0.mpr q)))
  obtain ⟨s, w, h, z, f1, f2, f3, f4, f5, f6, f7, f8, f9, f10, f11, -⟩ := z_free1 (N := 3000) (by omega) hS hk
  have i3 : ((39 : Int32) + ((4 : Int32) * nI k)) + 3 = nI (39 + 4 * k + 3) := z_at 39 4 k 3
  by_cases hf : z2 ≤ w
  · have row : stA M 1 (nI (39 + 4 * k + 3)) (nI (w - z2)) 1 = upd (M 1) (39 + 4 * k + 3) (nI (w - z2)) := stA_1 (by omega)
    have n1 : Near M (stA M 1 (nI (39 + 4 * k + 3)) (nI (w - z2))) := near_stA (by omega)
    have hcl : F_X6_refundSeats 3000 T (nI k) (nI z2) = (F_X6_serveRequests 3000 (u1 T 10 (upd (T 10) k (nI (w - z2)))) (nI k)).bind (fun r6 => some ((rg 24 (r6 10) (nI k)), r6)) := by
      unfold F_X6_refundSeats
      rw [z_has2, Option.bind_some, d3, if_neg hne, if_neg hv, zI_rg (by omega) (by omega), f5, if_pos (ile_t hf (by omega))]
      simp only [jlet]
      rw [zI_rs (by omega) (by omega), show nI w + -nI z2 = nI (w - z2) from (Int32.sub_eq_add_neg (nI w) (nI z2)).symm.trans (zI_sub hf)]
    have hrf : F_X9_refunds 3000 M (nI k) (nI z2) = (F_X9_serves 3000 (stA M 1 (nI (39 + 4 * k + 3)) (nI (w - z2))) (nI k)).bind (fun r5 => (F_X9_p 3000 r5 (nI k) 3).bind (fun r6 => some ((0 : Int32), stF r5 6 r6))) := by
      unfold F_X9_refunds
      rw [z_isPerformance, Option.bind_some, d4, if_neg hne, z_in, Option.bind_some, if_neg hv, z_p (v2 := 3) k 3 rfl rfl (by omega) (by omega), Option.bind_some, f8, if_pos (ile_t hf (by omega))]
      unfold D_X9_refunds_40
      rw [z_ref0, Option.bind_some, if_pos rfl, i3, if_pos (zI_inb (by omega) (by omega)), if_pos (zI_inb (by omega) (by omega))]
      simp only [jlet]
      rw [zI_nat (by omega), f8, zI_sub hf]
    generalize stA M 1 (nI (39 + 4 * k + 3)) (nI (w - z2)) = M1 at row n1 hrf
    have aN : ∀ c, c ≠ 39 + 4 * k + 3 → M1 1 c = M 1 c := fun c hc => by rw [row, upd_ne hc]
    have hS1 : RS4 (u1 T 10 (upd (T 10) k (nI (w - z2)))) (M1 1) np nf nu nr := RS4_sold hS hk c4 (fun _ _ => rfl) d7 (fun r r0 r10 _ _ _ => u1_ne r10) rfl (fun c h1 h2 => aN c h2) (by rw [row, upd_eq]) ((aN 180 (by omega)).trans d8) (RReq_c c4 rfl rfl rfl (fun c h1 h2 => aN c (by omega)) hreq) ⟨s, h, z, f1, f9, f10, f11, f2, by omega⟩
    obtain ⟨nr', T', M', r1, r2, r3, r4, r5, r6, r7⟩ := z_serve hk hS1
    have r5' := r5
    obtain ⟨s', w', h', z', g1, g2, g3, g4, g5, g6, g7, g8, -⟩ := z_free1 (N := 3000) (by omega) r5' hk
    refine ⟨(nI w', T'), (0, stF M' 6 (nI w')), ?_, ?_, op_ok (by decide) (near_trans n1 (near_trans r3 (near_stF (Or.inl rfl)))) (zI_pos (by omega)) stF_eq ⟨np, nf, nu, nr', by rw [stF_1]; exact r5⟩⟩
    · rw [hcl, r1, Option.bind_some, zI_rg (by omega) (by omega), g5]
    · rw [hrf, r2, Option.bind_some, z_p (v2 := 3) k 3 rfl rfl (by omega) (by omega), Option.bind_some, g8]
  · refine ⟨(jRef (nI 7) (nI w), T), (4, stF (stF M 4 (nI 7)) 5 (nI w)), ?_, ?_, op_ref (by decide) (near_refl M) (by omega) (by omega) (by omega)⟩
    · unfold F_X6_refundSeats
      rw [z_has2, Option.bind_some, d3, if_neg hne, if_neg hv, zI_rg (by omega) (by omega), f5, if_neg (ile_f (by omega) (by omega))]
      rfl
    · unfold F_X9_refunds
      rw [z_isPerformance, Option.bind_some, d4, if_neg hne, z_in, Option.bind_some, if_neg hv, z_p (v2 := 3) k 3 rfl rfl (by omega) (by omega), Option.bind_some, f8, if_neg (ile_f (by omega) (by omega))]
      unfold D_X9_refunds_40
      rw [z_ref1, Option.bind_some, if_neg (show ¬ (1 : Int32) = 0 by decide)]
      rfl
