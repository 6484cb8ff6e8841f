/-! the class's answers to the law's questions -/
section YD
variable {N : Nat} {S : CS} {np nf nu nr : Nat}
theorem ck1 : ckIndex 1 = 0 := by decide
theorem ca1 : ckArgument 1 = 0 := by decide
theorem y_pw {k : Nat} (I : Inv (S 0) np nf nu nr) (hk : k < nf) (v : Int32) : F_Y8_performance N S (nI k) v = (if v = 0 then (some (rg 24 (S 0 7) (nI k))) else (if v = 1 then (some (rg 24 (S 0 8) (nI k))) else (if v = 2 then (some (rg 24 (S 0 9) (nI k))) else (if v = 3 then ((F_X6_seatsAt N (S 0) (nI k) (0 : Int32)).bind (fun r8 => (some r8))) else (if v = 4 then ((F_X6_seatsAt N (S 0) (nI k) (1 : Int32)).bind (fun r7 => (some r7))) else (if v = 5 then ((F_X6_seatsAt N (S 0) (nI k) (2 : Int32)).bind (fun r6 => (some r6))) else (if v = 6 then ((F_X4_countFor N (S 0) (nI k)).bind (fun r5 => (some r5))) else (if v = 7 then (some (rg 24 (S 0 12) (nI k))) else none)))))))) := by
  have i2 := (inv_cnt I).2.1
  unfold F_Y8_performance
  rw [z_has2, Option.bind_some, (inv_sca I).2.2.2.1, jIn_idx hk (by omega), if_pos ck1]
theorem y_p0 {k : Nat} (I : Inv (S 0) np nf nu nr) (hk : k < nf) : F_Y8_performance N S (nI k) 0 = some (nI (nv (S 0 7 k))) := by
  have i2 := (inv_cnt I).2.1
  rw [y_pw I hk, if_pos rfl, zI_rg (by omega) (by omega), ← ((inv_per I).1 k hk).1]
theorem y_p1 {k : Nat} (I : Inv (S 0) np nf nu nr) (hk : k < nf) : F_Y8_performance N S (nI k) 1 = some (nI (nv (S 0 8 k))) := by
  have i2 := (inv_cnt I).2.1
  rw [y_pw I hk, if_neg (by decide), if_pos rfl, zI_rg (by omega) (by omega), ← ((inv_per I).2.1 k hk).1]
theorem y_p2 {k : Nat} (I : Inv (S 0) np nf nu nr) (hk : k < nf) : F_Y8_performance N S (nI k) 2 = some (nI (nv (S 0 9 k))) := by
  have i2 := (inv_cnt I).2.1
  rw [y_pw I hk, if_neg (by decide), if_neg (by decide), if_pos rfl, zI_rg (by omega) (by omega), ← ((inv_per I).2.2.1 k hk).1]
theorem c_sv0 {T : RM} {k : Nat} (I : Inv T np nf nu nr) (hk : k < nf) : F_X6_seatsAt N T (nI k) 0 = some (nI (svN T 0 k)) := c_sv (c := 0) I hk (by decide)
theorem c_sv1 {T : RM} {k : Nat} (I : Inv T np nf nu nr) (hk : k < nf) : F_X6_seatsAt N T (nI k) 1 = some (nI (svN T 1 k)) := c_sv (c := 1) I hk (by decide)
theorem c_sv2 {T : RM} {k : Nat} (I : Inv T np nf nu nr) (hk : k < nf) : F_X6_seatsAt N T (nI k) 2 = some (nI (svN T 2 k)) := c_sv (c := 2) I hk (by decide)
theorem c_all0 {T : RM} (hN : 24 < N) (I : Inv T np nf nu nr) : F_X6_seatsOfAll N T 0 = some (nI (sumN (svN T 0) nf)) := c_all (c := 0) hN I (by decide)
theorem c_all1 {T : RM} (hN : 24 < N) (I : Inv T np nf nu nr) : F_X6_seatsOfAll N T 1 = some (nI (sumN (svN T 1) nf)) := c_all (c := 1) hN I (by decide)
theorem c_all2 {T : RM} (hN : 24 < N) (I : Inv T np nf nu nr) : F_X6_seatsOfAll N T 2 = some (nI (sumN (svN T 2) nf)) := c_all (c := 2) hN I (by decide)
theorem y_p3 {k : Nat} (I : Inv (S 0) np nf nu nr) (hk : k < nf) : F_Y8_performance N S (nI k) 3 = some (nI (svN (S 0) 0 k)) := by
  rw [y_pw I hk, if_neg (by decide), if_neg (by decide), if_neg (by decide), if_pos rfl, c_sv0 I hk, Option.bind_some]
theorem y_p4 {k : Nat} (I : Inv (S 0) np nf nu nr) (hk : k < nf) : F_Y8_performance N S (nI k) 4 = some (nI (svN (S 0) 1 k)) := by
  rw [y_pw I hk, if_neg (by decide), if_neg (by decide), if_neg (by decide), if_neg (by decide), if_pos rfl, c_sv1 I hk, Option.bind_some]
theorem y_p5 {k : Nat} (I : Inv (S 0) np nf nu nr) (hk : k < nf) : F_Y8_performance N S (nI k) 5 = some (nI (svN (S 0) 2 k)) := by
  rw [y_pw I hk, if_neg (by decide), if_neg (by decide), if_neg (by decide), if_neg (by decide), if_neg (by decide), if_pos rfl, c_sv2 I hk, Option.bind_some]
theorem y_p3w {k w : Nat} (I : Inv (S 0) np nf nu nr) (hk : k < nf) (hw : w < 3) : F_Y8_performance N S (nI k) (3 + nI w) = some (nI (svN (S 0) w k)) := by
  rcases (show w = 0 ∨ w = 1 ∨ w = 2 by omega) with rfl | rfl | rfl
  · exact y_p3 I hk
  · exact y_p4 I hk
  · exact y_p5 I hk
theorem y_p6 {k : Nat} (hN : 24 < N) (I : Inv (S 0) np nf nu nr) (hk : k < nf) : F_Y8_performance N S (nI k) 6 = some (nI (rqN (S 0) k nr)) := by
  rw [y_pw I hk, if_neg (by decide), if_neg (by decide), if_neg (by decide), if_neg (by decide), if_neg (by decide), if_neg (by decide), if_pos rfl, c_count hN I hk, Option.bind_some]
theorem y_p7 {k : Nat} (I : Inv (S 0) np nf nu nr) (hk : k < nf) : F_Y8_performance N S (nI k) 7 = some (nI (nv (S 0 12 k))) := by
  have i2 := (inv_cnt I).2.1
  rw [y_pw I hk, if_neg (by decide), if_neg (by decide), if_neg (by decide), if_neg (by decide), if_neg (by decide), if_neg (by decide), if_neg (by decide), if_pos rfl, zI_rg (by omega) (by omega), ← ((inv_per I).2.2.2.2.2 k hk).1]
theorem y_dw {p : Nat} (I : Inv (S 0) np nf nu nr) (hp : p < np) (v : Int32) : F_Y8_production N S (nI p) v = (if v = 0 then (some (rg 8 (S 0 2) (nI p))) else (if v = 1 then (some (rg 8 (S 0 3) (nI p))) else (if v = 2 then (some (rg 8 (S 0 4) (nI p))) else (if v = 3 then (some (rg 8 (S 0 5) (nI p))) else (if v = 4 then (some (bcnt (rg 8 (S 0 6) (nI p)))) else (if v = 5 then ((F_X8_firstDate N (rg 8 (S 0 6) (nI p))).bind (fun r7 => (some r7))) else (if v = 6 then ((F_X8_lastDate N (rg 8 (S 0 6) (nI p))).bind (fun r6 => (some r6))) else (if v = 7 then ((F_X6_takingsOf N (S 0) (nI p)).bind (fun r5 => (some r5))) else none)))))))) := by
  have i1 := (inv_cnt I).1
  unfold F_Y8_production
  rw [z_has3, Option.bind_some, (inv_sca I).2.2.1, jIn_idx hp (by omega), if_pos ck1]
theorem y_d0 {p : Nat} (I : Inv (S 0) np nf nu nr) (hp : p < np) : F_Y8_production N S (nI p) 0 = some (nI (nv (S 0 2 p))) := by
  have i1 := (inv_cnt I).1
  rw [y_dw I hp, if_pos rfl, zI_rg (by omega) (by omega), ← ((inv_pro I).1 p hp).1]
theorem y_d1 {p : Nat} (I : Inv (S 0) np nf nu nr) (hp : p < np) : F_Y8_production N S (nI p) 1 = some (nI (nv (S 0 3 p))) := by
  have i1 := (inv_cnt I).1
  rw [y_dw I hp, if_neg (by decide), if_pos rfl, zI_rg (by omega) (by omega), ← ((inv_pro I).2.1 p hp).1]
theorem y_d2 {p : Nat} (I : Inv (S 0) np nf nu nr) (hp : p < np) : F_Y8_production N S (nI p) 2 = some (S 0 4 p) := by
  have i1 := (inv_cnt I).1
  rw [y_dw I hp, if_neg (by decide), if_neg (by decide), if_pos rfl, zI_rg (by omega) (by omega)]
theorem y_d3 {p : Nat} (I : Inv (S 0) np nf nu nr) (hp : p < np) : F_Y8_production N S (nI p) 3 = some (S 0 5 p) := by
  have i1 := (inv_cnt I).1
  rw [y_dw I hp, if_neg (by decide), if_neg (by decide), if_neg (by decide), if_pos rfl, zI_rg (by omega) (by omega)]
/-- a production's performances, by its dates -/
theorem pop_perf {T : RM} {p : Nat} (I : Inv T np nf nu nr) (hp : p < np) : popN (nv (T 6 p)) 32 = sumN (fun k => if nv (T 7 k) = p then 1 else 0) nf := by
  have e6 := ((inv_pro I).2.2.2.2 p hp).2
  have h1 : popN (nv (T 6 p)) 32 = popN (nv (T 6 p)) 30 := sum_cut (fun d h1 h2 => by rw [Nat.testBit_lt_two_pow (Nat.lt_of_lt_of_le e6 (Nat.pow_le_pow_right (by decide) h1)), if_neg (by decide)]) (by decide)
  rw [h1]
  unfold popN
  rw [sumN_congr (g := fun d => sumN (fun k => if nv (T 9 k) = d ∧ nv (T 7 k) = p then 1 else 0) nf) (fun d hd => sum_uniq (Q := fun k => nv (T 9 k) = d ∧ nv (T 7 k) = p) (fun i j hi hj h1 h2 => by
    by_cases hij : i = j
    · exact hij
    · exact absurd (h1.2.trans h2.2.symm) (inv_apt I i j hi hj hij (h1.1.trans h2.1.symm)).2) (b := (nv (T 6 p)).testBit d = true) ((inv_bit I p hp d hd).trans ⟨fun ⟨k, a, b, c⟩ => ⟨k, a, c, b⟩, fun ⟨k, a, b, c⟩ => ⟨k, a, c, b⟩⟩) 1)]
  exact sum_parts (P := fun k => nv (T 9 k)) (fun k hk => ((inv_per I).2.2.1 k hk).2) (fun k => nv (T 7 k) = p) (fun _ _ => 1)
theorem y_d4 {p : Nat} (I : Inv (S 0) np nf nu nr) (hp : p < np) : F_Y8_production N S (nI p) 4 = some (nI (sumN (fun k => if nv (S 0 7 k) = p then 1 else 0) nf)) := by
  have i1 := (inv_cnt I).1
  have e6 := (inv_pro I).2.2.2.2 p hp
  rw [y_dw I hp, if_neg (by decide), if_neg (by decide), if_neg (by decide), if_neg (by decide), if_pos rfl, zI_rg (by omega) (by omega), ← pop_perf I hp]
  conv => lhs; rw [e6.1, bcnt_pop (Nat.lt_of_lt_of_le e6.2 (by decide))]
/-- the first and the last date of a set -/
def FL2 (m : Nat) (a b : Int32) : Prop := ((∀ e, e < 30 → m.testBit e = false) ∧ a = -1 ∧ b = -1) ∨ ∃ f l, f < 30 ∧ l < 30 ∧ m.testBit f = true ∧ m.testBit l = true ∧ (∀ e, e < 30 → m.testBit e = true → f ≤ e ∧ e ≤ l) ∧ a = nI f ∧ b = nI l
theorem y_d56 {p : Nat} (hN : 30 < N) (I : Inv (S 0) np nf nu nr) (hp : p < np) : ∃ a b, F_Y8_production N S (nI p) 5 = some a ∧ F_Y8_production N S (nI p) 6 = some b ∧ FL2 (nv (S 0 6 p)) a b := by
  have i1 := (inv_cnt I).1
  have e6 := (inv_pro I).2.2.2.2 p hp
  rw [y_dw I hp, y_dw I hp, if_neg (by decide), if_neg (by decide), if_neg (by decide), if_neg (by decide), if_neg (by decide), if_pos rfl, if_neg (by decide), if_neg (by decide), if_neg (by decide), if_neg (by decide), if_neg (by decide), if_neg (by decide), if_pos rfl, zI_rg (by omega) (by omega), e6.1, nv_nI (Nat.lt_of_lt_of_le e6.2 (by decide))]
  generalize nv (S 0 6 p) = m
  have hl : F_X8_lastDate N (nI m) = D_X8_lastDate_3 N N (nI m) (nI 30 - 1) := rfl
  rw [hl]
  rcases c_firstDate (N := N) (m := m) hN with ⟨f, f1, f2, f3, f4⟩ | ⟨f1, f2⟩
  · rcases c_lastL (N := N) (m := m) 30 N hN (by decide) with ⟨l, l1, l2, l3, l4⟩ | ⟨l1, l2⟩
    · refine ⟨nI f, nI l, by rw [f4]; rfl, by rw [l4]; rfl, Or.inr ⟨f, l, f1, l1, f2, l2, fun e he hb => ⟨?_, ?_⟩, rfl, rfl⟩⟩
      · by_cases h : e < f
        · rw [f3 e h] at hb; cases hb
        · omega
      · by_cases h : l < e
        · rw [l3 e h he] at hb; cases hb
        · omega
    · rw [l1 f f1] at f2; cases f2
  · rcases c_lastL (N := N) (m := m) 30 N hN (by decide) with ⟨l, l1, l2, l3, l4⟩ | ⟨l1, l2⟩
    · rw [f1 l l1] at l2; cases l2
    · exact ⟨-1, -1, by rw [f2]; rfl, by rw [l2]; rfl, Or.inl ⟨f1, rfl, rfl⟩⟩
theorem y_d7 {p : Nat} (hN : 24 < N) (I : Inv (S 0) np nf nu nr) (hp : p < np) : F_Y8_production N S (nI p) 7 = some (tkI (S 0) p nf) := by
  rw [y_dw I hp, if_neg (by decide), if_neg (by decide), if_neg (by decide), if_neg (by decide), if_neg (by decide), if_neg (by decide), if_neg (by decide), if_pos rfl, c_tak hN I hp, Option.bind_some]
theorem y_uw {u : Nat} (hN : 24 < N) (I : Inv (S 0) np nf nu nr) (hu : u < nu) (v : Int32) : F_Y8_subscription N S (nI u) v = (if v = 0 then (some (rg 10 (S 0 13) (nI u))) else (if v = 1 then (some (bcnt (nI (hsN (S 0) u nf)))) else (if v = 2 then (some (rg 10 (S 0 14) (nI u))) else (if v = 3 then (some (nI (hsN (S 0) u nf))) else none)))) := by
  obtain ⟨i1, i2, i3, i4⟩ := inv_cnt I
  unfold F_Y8_subscription
  rw [z_has7, Option.bind_some, (inv_sca I).2.2.2.2.1, jIn_idx hu (by omega), if_pos ck1, c_heldFor hN i2 (by omega) (inv_sca I).2.2.2.1 (ok_up (inv_per I).2.2.2.2.2 (Nat.pow_le_pow_right (by decide) (by omega))), Option.bind_some]
theorem y_u0 {u : Nat} (hN : 24 < N) (I : Inv (S 0) np nf nu nr) (hu : u < nu) : F_Y8_subscription N S (nI u) 0 = some (nI (nv (S 0 13 u))) := by
  have i3 := (inv_cnt I).2.2.1
  rw [y_uw hN I hu, if_pos rfl, zI_rg (by omega) (by omega), ← ((inv_sub I).1 u hu).1]
theorem y_u1 {u : Nat} (hN : 24 < N) (I : Inv (S 0) np nf nu nr) (hu : u < nu) : F_Y8_subscription N S (nI u) 1 = some (bcnt (nI (hsN (S 0) u nf))) := by
  rw [y_uw hN I hu, if_neg (by decide), if_pos rfl]
theorem y_u2 {u : Nat} (hN : 24 < N) (I : Inv (S 0) np nf nu nr) (hu : u < nu) : F_Y8_subscription N S (nI u) 2 = some (nI (nv (S 0 14 u))) := by
  have i3 := (inv_cnt I).2.2.1
  rw [y_uw hN I hu, if_neg (by decide), if_neg (by decide), if_pos rfl, zI_rg (by omega) (by omega), ← ((inv_sub I).2 u hu).1]
theorem y_u3 {u : Nat} (hN : 24 < N) (I : Inv (S 0) np nf nu nr) (hu : u < nu) : F_Y8_subscription N S (nI u) 3 = some (nI (hsN (S 0) u nf)) := by
  rw [y_uw hN I hu, if_neg (by decide), if_neg (by decide), if_neg (by decide), if_pos rfl]
theorem jIn_st {s : Nat} (hs : s < 3) : jIn (nI s) 0 2 = 1 := jIn_nat (l := 0) (h := 2) (Nat.zero_le _) (by omega) (by decide)
theorem jIn_dt {d : Nat} (hd : d < 30) : jIn (nI d) 0 29 = 1 := jIn_nat (l := 0) (h := 29) (Nat.zero_le _) (by omega) (by decide)
theorem y_on {k : Nat} (hN : 24 < N) (I : Inv (S 0) np nf nu nr) (hk : k < nf) : F_Y8_on N S (nI (nv (S 0 8 k))) (nI (nv (S 0 9 k))) = some (nI k) := by
  have e8 := ((inv_per I).2.1 k hk).2
  have e9 := ((inv_per I).2.2.1 k hk).2
  have i2 := (inv_cnt I).2.1
  unfold F_Y8_on
  rw [jIn_st e8, jIn_dt e9, if_pos ck1, if_pos ca1]
  rcases c_find hN I e8 e9 with ⟨a, b⟩ | ⟨j, j1, j2, j3, j4, j5⟩
  · exact absurd ⟨rfl, rfl⟩ (a k hk)
  · rw [j5, Option.bind_some, if_neg (show ¬ nI j = -1 from zI_ne_neg (by omega)), j4 k hk rfl rfl]
theorem c_load {T : RM} {d : Nat} (hN : 30 < N) (I : Inv T np nf nu nr) (hd : d < 30) : F_X3_loadIf N T (nI d) (-1) 0 = some (nI (loadN (T 6) (T 2) np d)) := by
  have i1 := (inv_cnt I).1
  have hDW : ∀ p, p < np → DW T (-1) 0 p = T 6 p := fun p hp => DW_none (by omega)
  have hD : DOk (DW T (-1) 0) np := fun p hp => by rw [hDW p hp]; exact ok_D (inv_pro I).2.2.2.2 p hp
  rw [c_loadIf (by omega) i1 (inv_sca I).2.2.1 hd hD (ok_Z (b := 9) (inv_pro I).1), loadN_c hDW]
theorem y_load {d : Nat} (hN : 30 < N) (I : Inv (S 0) np nf nu nr) (hd : d < 30) : F_Y8_load N S (nI d) = some (nI (loadN (S 0 6) (S 0 2) np d)) := by
  unfold F_Y8_load
  rw [jIn_dt hd, if_pos ca1, c_load hN I hd, Option.bind_some]
theorem y_peak (hN : 30 < N) (I : Inv (S 0) np nf nu nr) : F_X8_peak N S = some (nI (maxN (loadN (S 0 6) (S 0 2) np) 30)) := by
  have i1 := (inv_cnt I).1
  have hDW : ∀ p, p < np → DW (S 0) (-1) 0 p = S 0 6 p := fun p hp => DW_none (by omega)
  have hD : DOk (DW (S 0) (-1) 0) np := fun p hp => by rw [hDW p hp]; exact ok_D (inv_pro I).2.2.2.2 p hp
  unfold F_X8_peak
  rw [c_peakIf hN i1 (inv_sca I).2.2.1 hD (ok_Z (b := 9) (inv_pro I).1), Option.bind_some, maxN_congr (fun d _ => loadN_c hDW)]
theorem y_wait {k q : Nat} (hN : 24 < N) (I : Inv (S 0) np nf nu nr) (hk : k < nf) (hq : q < rqN (S 0) k nr) : ∃ i, i < nr ∧ nv (S 0 15 i) = k ∧ rqN (S 0) k i = q ∧ F_Y8_waiting N S (nI k) (nI q) 1 = some (nI (nv (S 0 17 i))) := by
  obtain ⟨i1, i2, i3, i4⟩ := inv_cnt I
  obtain ⟨i, j1, j2, j3, j4⟩ := c_find4 hN I hk hq
  refine ⟨i, j1, j2, j3, ?_⟩
  unfold F_Y8_waiting
  rw [z_has2, Option.bind_some, (inv_sca I).2.2.2.1, jIn_idx hk (by omega), if_pos ck1, j4, Option.bind_some, if_neg (show ¬ nI i = -1 from zI_ne_neg (by omega)), if_neg (by decide), zI_rg (by omega) (by omega), ← ((inv_req I).2.2 i j1).1]
/-- the seats of a kind on a date -/
def sdN (T : RM) (c d : Nat) : Nat → Nat := sumN (fun k => if nv (T 9 k) = d then svN T c k else 0)
theorem y_seats {d c : Nat} (hN : 24 < N) (I : Inv (S 0) np nf nu nr) (hd : d < 30) (hc : c < 3) : F_Y8_seats N S (nI d) (nI c) = some (nI (sdN (S 0) c d nf)) := by
  obtain ⟨i1, i2, i3, i4⟩ := inv_cnt I
  have s3 := (inv_sca I).2.2.2.1
  unfold F_Y8_seats
  rw [jIn_dt hd, jIn_st hc, if_neg (by decide), if_neg (by decide), if_pos ca1]
  refine loopN (fun n a i => D_Y8_seats_27 N S n (nI d) (nI c) a i) (fun i => nI (sdN (S 0) c d i)) nf _ (fun n => ?_) (fun n i hi => ?_) nf N 0 (by omega) (by omega)
  · show D_Y8_seats_27 N S (n + 1) (nI d) (nI c) (nI (sdN (S 0) c d nf)) (nI nf) = _
    rw [D_Y8_seats_27, s3, if_pos (ile_t (Nat.le_refl nf) (by omega))]
  · show D_Y8_seats_27 N S (n + 1) (nI d) (nI c) (nI (sdN (S 0) c d i)) (nI i) = D_Y8_seats_27 N S n (nI d) (nI c) (nI (sdN (S 0) c d i + (if nv (S 0 9 i) = d then svN (S 0) c i else 0))) (nI (i + 1))
    have e9 := (inv_per I).2.2.1 i hi
    rw [D_Y8_seats_27, s3, if_neg (ile_f hi (by omega)), zI_rg (by omega) (by omega), c_sv I hi hc, Option.bind_some, zI_succ, zI_add]
    by_cases h : nv (S 0 9 i) = d
    · rw [if_pos (by rw [e9.1, h]), if_pos h]
    · rw [if_neg (by rw [e9.1]; exact ine h (by omega) (by omega)), if_neg h]
      rfl
/-- the seats of a kind on a stage on a date -/
def soN (T : RM) (c d nf s : Nat) : Nat := sumN (fun k => if nv (T 8 k) = s ∧ nv (T 9 k) = d then svN T c k else 0) nf
theorem c_onStage {T : RM} {s d c : Nat} (hN : 24 < N) (I : Inv T np nf nu nr) (hs : s < 3) (hd : d < 30) (hc : c < 3) : F_X6_seatsOnStage N T (nI s) (nI d) (nI c) = some (nI (soN T c d nf s)) := by
  obtain ⟨i1, i2, i3, i4⟩ := inv_cnt I
  have s4 := (inv_sca I).2.2.2.2.1
  unfold F_X6_seatsOnStage
  rcases c_find hN I hs hd with ⟨a, b⟩ | ⟨k, j1, j2, j3, j4, j5⟩
  · rw [b, Option.bind_some, if_pos rfl]
    unfold soN
    rw [sumN_congr (g := fun _ => 0) (fun k hk => if_neg (a k hk)), sumN_zero]
    rfl
  · have hso : soN T c d nf s = svN T c k := by
      unfold soN
      have := sumN_one (F := fun j => if nv (T 8 j) = s ∧ nv (T 9 j) = d then svN T c j else 0) (G := fun _ => 0) (q := k) (v := svN T c k) j1 (fun p hp hpk => if_neg (fun h => hpk (j4 p hp h.1 h.2))) (by rw [Nat.zero_add]; exact if_pos ⟨j2, j3⟩)
      rw [this, sumN_zero, Nat.zero_add]
    have e10 := (inv_per I).2.2.2.1 k j1
    have e12 := (inv_per I).2.2.2.2.2 k j1
    have hh := inv_hld I k j1
    rw [hso, j5, Option.bind_some, if_neg (show ¬ nI k = -1 from zI_ne_neg (by omega)), zI_rg (by omega) (by omega)]
    have hb : hldN T k nu ≤ 80 := by
      have := hh.1
      have := ((inv_per I).2.1 k j1).2
      omega
    have hloop : D_X6_seatsOnStage_46 N T N (nI s) (nI c) (nI k) (T 10 k) 0 0 = (if nI c = (1 : Int32) then (some (nI (hldN T k nu))) else (some (((rg 3 (T 1) (nI s)) - T 10 k) - nI (hldN T k nu)))) := by
      refine loopN (fun n a i => D_X6_seatsOnStage_46 N T n (nI s) (nI c) (nI k) (T 10 k) a i) (fun i => nI (hldN T k i)) nu _ (fun n => ?_) (fun n i hi => ?_) nu N 0 (by omega) (by omega)
      · show D_X6_seatsOnStage_46 N T (n + 1) (nI s) (nI c) (nI k) (T 10 k) (nI (hldN T k nu)) (nI nu) = _
        rw [D_X6_seatsOnStage_46, s4, if_pos (ile_t (Nat.le_refl nu) (by omega))]
      · show D_X6_seatsOnStage_46 N T (n + 1) (nI s) (nI c) (nI k) (T 10 k) (nI (hldN T k i)) (nI i) = D_X6_seatsOnStage_46 N T n (nI s) (nI c) (nI k) (T 10 k) (nI (hldN T k i + (if (nv (T 12 k)).testBit i = true then nv (T 13 i) else 0))) (nI (i + 1))
        have e13 := (inv_sub I).1 i hi
        rw [D_X6_seatsOnStage_46, s4, if_neg (ile_f hi (by omega)), c_isHeld (by omega) (by omega) e12.1, Option.bind_some, zI_rg (by omega) (by omega), zI_succ]
        by_cases h : (nv (T 12 k)).testBit i = true
        · have e : nI (hldN T k i) + T 13 i = nI (hldN T k i + nv (T 13 i)) := by rw [← zI_add, ← e13.1]
          rw [if_pos h, if_neg (by decide), if_pos h, e]
        · rw [if_neg h, if_pos rfl, if_neg h]
          rfl
    rcases (show c = 0 ∨ c = 1 ∨ c = 2 by omega) with rfl | rfl | rfl
    · rw [if_pos (show nI 0 = 0 from rfl)]
      exact congrArg some e10.1
    · rw [if_neg (show ¬ nI 1 = 0 by decide), hloop, if_pos (show nI 1 = 1 from rfl), ← hh.1]
      rfl
    · rw [if_neg (show ¬ nI 2 = 0 by decide), hloop, if_neg (show ¬ nI 2 = 1 by decide), zI_rg (by omega) (by omega), (inv_sca I).2.2.2.2.2.2 s hs, ← hh.1]
      have := hh.2
      rw [j2] at this
      conv => lhs; rw [e10.1]
      rw [zI_sub (by omega), zI_sub (by omega), Nat.sub_sub]
      show some (nI _) = some (nI (freN T k))
      unfold freN
      rw [j2]
theorem y_again {d c : Nat} (hN : 24 < N) (I : Inv (S 0) np nf nu nr) (hd : d < 30) (hc : c < 3) : F_Y8_seatsAgain N S (nI d) (nI c) = some (nI (sdN (S 0) c d nf)) := by
  have hsum : sdN (S 0) c d nf = sumN (soN (S 0) c d nf) 3 := (sum_parts (P := fun k => nv (S 0 8 k)) (m := 3) (fun k hk => ((inv_per I).2.1 k hk).2) (fun k => nv (S 0 9 k) = d) (fun _ k => svN (S 0) c k)).symm
  unfold F_Y8_seatsAgain
  rw [jIn_dt hd, jIn_st hc, if_neg (by decide), if_neg (by decide), if_pos ca1, hsum]
  refine loopN (fun n a i => D_Y8_seatsAgain_27 N S n (nI d) (nI c) a i) (fun i => nI (sumN (soN (S 0) c d nf) i)) 3 _ (fun n => ?_) (fun n i hi => ?_) 3 N 0 (by omega) (by omega)
  · show D_Y8_seatsAgain_27 N S (n + 1) (nI d) (nI c) (nI (sumN (soN (S 0) c d nf) 3)) (nI 3) = _
    rw [D_Y8_seatsAgain_27, if_pos (by decide)]
  · show D_Y8_seatsAgain_27 N S (n + 1) (nI d) (nI c) (nI (sumN (soN (S 0) c d nf) i)) (nI i) = D_Y8_seatsAgain_27 N S n (nI d) (nI c) (nI (sumN (soN (S 0) c d nf) i + soN (S 0) c d nf i)) (nI (i + 1))
    rw [D_Y8_seatsAgain_27, if_neg (show ¬ (3 : Int32) ≤ nI i from ile_f (a := 3) hi (by decide)), c_onStage hN I hi hd hc, Option.bind_some, zI_add, zI_succ]
theorem y_part {p : Nat} (hN : 24 < N) (I : Inv (S 0) np nf nu nr) (hp : p < np) : F_Y8_partner N S (nI p) = some (FP.fdiv (FP.fmul (FP.i2f (tkI (S 0) p nf)) (FP.i2f (S 0 5 p))) (1120403456 : UInt32)) := by
  have i1 := (inv_cnt I).1
  unfold F_Y8_partner
  rw [z_has3, Option.bind_some, (inv_sca I).2.2.1, jIn_idx hp (by omega), if_pos ck1, c_tak hN I hp, Option.bind_some, zI_rg (by omega) (by omega)]
theorem psN_bd {T : RM} {p : Nat} (I : Inv T np nf nu nr) : psN T p nf ≤ 24 * 80 := by
  have i2 := (inv_cnt I).2.1
  have : psN T p nf ≤ nf * 80 := sumN_bd (fun k hk => by
    have e8 := ((inv_per I).2.1 k hk).2
    by_cases h : nv (T 7 k) = p
    · rw [if_pos h]; omega
    · rw [if_neg h]; omega)
  exact Nat.le_trans this (Nat.mul_le_mul_right 80 i2)
theorem y_full {p : Nat} (hN : 24 < N) (I : Inv (S 0) np nf nu nr) (hp : p < np) (h0 : 0 < psN (S 0) p nf) : F_Y8_fullness N S (nI p) = some (FP.ddiv (FP.i2d (nI (ptN (S 0) p nf))) (FP.i2d (nI (psN (S 0) p nf)))) := by
  have i1 := (inv_cnt I).1
  have hb := psN_bd (p := p) I
  unfold F_Y8_fullness
  rw [z_has3, Option.bind_some, (inv_sca I).2.2.1, jIn_idx hp (by omega), if_pos ck1, c_psN hN I hp, Option.bind_some, if_pos (show 0 < nI (psN (S 0) p nf) from (zI_lt (a := 0) (by decide) (by omega)).mpr h0), c_ptN hN I hp, Option.bind_some, if_pos (decide_eq_true (show nI (psN (S 0) p nf) ≠ 0 from ine (b := 0) (by omega) (by omega) (by decide)))]
theorem y_a0 (I : Inv (S 0) np nf nu nr) : F_Y8_account N S 0 = some (nI np) := by
  unfold F_Y8_account
  rw [if_pos rfl, (inv_sca I).2.2.1]
theorem y_a1 (I : Inv (S 0) np nf nu nr) : F_Y8_account N S 1 = some (nI nf) := by
  unfold F_Y8_account
  rw [if_neg (by decide), if_pos rfl, (inv_sca I).2.2.2.1]
theorem y_a2 (I : Inv (S 0) np nf nu nr) : F_Y8_account N S 2 = some (nI nu) := by
  unfold F_Y8_account
  rw [if_neg (by decide), if_neg (by decide), if_pos rfl, (inv_sca I).2.2.2.2.1]
theorem y_a3 (I : Inv (S 0) np nf nu nr) : F_Y8_account N S 3 = some (nI nr) := by
  unfold F_Y8_account
  rw [if_neg (by decide), if_neg (by decide), if_neg (by decide), if_pos rfl, (inv_sca I).2.2.2.2.2.1]
theorem y_a4 (hN : 24 < N) (I : Inv (S 0) np nf nu nr) : F_Y8_account N S 4 = some (nI (sumN (svN (S 0) 0) nf)) := by
  unfold F_Y8_account
  rw [if_neg (by decide), if_neg (by decide), if_neg (by decide), if_neg (by decide), if_pos rfl, c_all0 hN I, Option.bind_some]
theorem y_a5 (hN : 24 < N) (I : Inv (S 0) np nf nu nr) : F_Y8_account N S 5 = some (nI (sumN (svN (S 0) 1) nf)) := by
  unfold F_Y8_account
  rw [if_neg (by decide), if_neg (by decide), if_neg (by decide), if_neg (by decide), if_neg (by decide), if_pos rfl, c_all1 hN I, Option.bind_some]
theorem y_a6 (hN : 24 < N) (I : Inv (S 0) np nf nu nr) : F_Y8_account N S 6 = some (nI (sumN (svN (S 0) 2) nf)) := by
  unfold F_Y8_account
  rw [if_neg (by decide), if_neg (by decide), if_neg (by decide), if_neg (by decide), if_neg (by decide), if_neg (by decide), if_pos rfl, c_all2 hN I, Option.bind_some]
theorem y_a7 (I : Inv (S 0) np nf nu nr) : F_Y8_account N S 7 = some (nI 6) := by
  unfold F_Y8_account
  rw [if_neg (by decide), if_neg (by decide), if_neg (by decide), if_neg (by decide), if_neg (by decide), if_neg (by decide), if_neg (by decide), if_pos rfl, (inv_sca I).1]
theorem y_a8 (I : Inv (S 0) np nf nu nr) : F_Y8_account N S 8 = some (nI 20) := by
  unfold F_Y8_account
  rw [if_neg (by decide), if_neg (by decide), if_neg (by decide), if_neg (by decide), if_neg (by decide), if_neg (by decide), if_neg (by decide), if_neg (by decide), if_pos rfl, (inv_sca I).2.1]
theorem y_a9 (hN : 24 < N) (I : Inv (S 0) np nf nu nr) : F_Y8_account N S 9 = some (sumI (fun p => tkI (S 0) p nf) np) := by
  unfold F_Y8_account
  rw [if_neg (by decide), if_neg (by decide), if_neg (by decide), if_neg (by decide), if_neg (by decide), if_neg (by decide), if_neg (by decide), if_neg (by decide), if_neg (by decide), if_pos rfl, c_takAll hN I, Option.bind_some]
theorem y_a10 {s : Nat} (I : Inv (S 0) np nf nu nr) (hs : s < 3) : F_Y8_account N S (10 + nI s) = some (nI (40 + 20 * s)) := by
  have s6 := (inv_sca I).2.2.2.2.2.2 s hs
  unfold F_Y8_account
  rcases (show s = 0 ∨ s = 1 ∨ s = 2 by omega) with rfl | rfl | rfl
  · rw [if_neg (by decide), if_neg (by decide), if_neg (by decide), if_neg (by decide), if_neg (by decide), if_neg (by decide), if_neg (by decide), if_neg (by decide), if_neg (by decide), if_neg (by decide), if_pos (by decide), show rg 3 (S 0 1) 0 = S 0 1 0 from zI_rg (k := 0) (by decide) (by decide), s6]
  · rw [if_neg (by decide), if_neg (by decide), if_neg (by decide), if_neg (by decide), if_neg (by decide), if_neg (by decide), if_neg (by decide), if_neg (by decide), if_neg (by decide), if_neg (by decide), if_neg (by decide), if_pos (by decide), show rg 3 (S 0 1) 1 = S 0 1 1 from zI_rg (k := 1) (by decide) (by decide), s6]
  · rw [if_neg (by decide), if_neg (by decide), if_neg (by decide), if_neg (by decide), if_neg (by decide), if_neg (by decide), if_neg (by decide), if_neg (by decide), if_neg (by decide), if_neg (by decide), if_neg (by decide), if_neg (by decide), if_pos (by decide), show rg 3 (S 0 1) 2 = S 0 1 2 from zI_rg (k := 2) (by decide) (by decide), s6]
end YD
