/-! the operations of a season, in plainer words -/
theorem RSea0_loc {T : RM} {A A' : Nat → Int32} (hA : ∀ k, k < 241 → A' k = A k) (h : RSea0 T A) : RSea0 T A' := by
  obtain ⟨np, nf, nu, nr, ⟨c1, c2, c3, c4, d1, d2, d3, d4, d5, d6, d7, d8⟩, htop, hpro, hper, hapt, hsub, hreq, hcrw⟩ := h
  exact ⟨np, nf, nu, nr, ⟨c1, c2, c3, c4, d1, (hA 5 (by omega)).trans d2, d3, (hA 38 (by omega)).trans d4, d5, (hA 159 (by omega)).trans d6, d7, (hA 180 (by omega)).trans d8⟩, RTop_c rfl rfl rfl (fun k hk => hA k (by omega)) htop, RPro_c c1 c2 rfl rfl rfl rfl rfl (fun k h1 h2 => hA k (by omega)) (fun k h1 h2 => hA k (by omega)) hpro, RPer_c c2 (Nat.le_refl nu) rfl rfl rfl rfl rfl rfl (fun k hk => hA k (by omega)) (fun k h1 h2 => hA k (by omega)) (fun k hk => heldS_c (hA _ (by omega)) (fun u hu => hA _ (by omega))) hper, RApt_c c2 (fun k h1 h2 => hA k (by omega)) hapt, RSub_c (fun _ _ => rfl) (fun _ _ => rfl) (fun u hu => ⟨hA _ (by omega), hA _ (by omega)⟩) hsub, RReq_c c4 rfl rfl rfl (fun k h1 h2 => hA k (by omega)) hreq, hcrw⟩
theorem rs_M {T M : RM} : RSea T (blk M 0) ↔ RSea0 T (M 1) := ⟨fun h => RSea0_loc (fun k hk => tr_M hk) h, fun h => RSea0_loc (fun k hk => (tr_M hk).symm) h⟩
/-- the reference's present season may differ, and what it last answered -/
def Near (M M' : RM) : Prop := (∀ r, r ≠ 0 → r ≠ 1 → M' r = M r) ∧ (∀ x, x ≠ 6 → x ≠ 7 → x ≠ 8 → M' 0 x = M 0 x) ∧ ∀ k, 241 ≤ k → M' 1 k = M 1 k
theorem near_refl (M : RM) : Near M M := ⟨fun _ _ _ => rfl, fun _ _ _ _ => rfl, fun _ _ => rfl⟩
theorem near_trans {M M' M'' : RM} (h : Near M M') (h2 : Near M' M'') : Near M M'' := ⟨fun r h0 h1 => (h2.1 r h0 h1).trans (h.1 r h0 h1), fun x h6 h7 h8 => (h2.2.1 x h6 h7 h8).trans (h.2.1 x h6 h7 h8), fun k hk => (h2.2.2 k hk).trans (h.2.2 k hk)⟩
theorem near_stA {M : RM} {i : Nat} {v : Int32} (hi : i < 241) : Near M (stA M 1 (nI i) v) := ⟨fun r h0 h1 => stA_ne h1, fun x _ _ _ => by rw [stA_ne (by decide)], fun k hk => by rw [stA_1 (by omega), upd_ne (by omega)]⟩
theorem near_stF {M : RM} {x : Nat} {v : Int32} (hx : x = 6 ∨ x = 7 ∨ x = 8) : Near M (stF M x v) := ⟨fun r h0 _ => stF_ne h0, fun y h6 h7 h8 => stF_o (by omega), fun k _ => by rw [stF_ne (by decide)]⟩
theorem near_fre {M M' : RM} (h : Near M M') : FrE M M' := ⟨h.1, fun x h4 h5 h6 h7 h8 => h.2.1 x h6 h7 h8, fun b k h1 h8 hk => show M' 1 (241 * b + k) = M 1 (241 * b + k) from h.2.2 _ (by omega)⟩
theorem stF_1 {M : RM} {x : Nat} {v : Int32} : stF M x v 1 = M 1 := stF_ne (by decide)
theorem op_ok {K : List Int32} {T T' M M' : RM} {v : Int32} (hK : (0 : Int32) ∈ K) (hn : Near M M') (hv : 0 ≤ v) (h6 : M' 0 6 = v) (hR : RSea0 T' (M' 1)) : OpR RSea K T M (v, T') (0, M') :=
  ⟨hK, near_fre hn, Or.inl ⟨hv, rfl, h6, rs_M.mpr hR, hn.2.1 4 (by decide) (by decide) (by decide), hn.2.1 5 (by decide) (by decide) (by decide)⟩⟩
theorem op_no {K : List Int32} {T M : RM} {c w : Int32} (hK : w ∈ K) (h : (c = -1 ∧ w = 1) ∨ (c = -2 ∧ w = 2) ∨ (c = -3 ∧ w = 3)) : OpR RSea K T M (c, T) (w, M) := ⟨hK, FrE_refl M, Or.inr (Or.inl ⟨rfl, rfl, rfl, h⟩)⟩
theorem op_ref {K : List Int32} {T M M' : RM} {a d : Nat} (hK : (4 : Int32) ∈ K) (hn : Near M M') (ha : 1 ≤ a) (ha9 : a ≤ 9) (hd : d < 1000) : OpR RSea K T M (jRef (nI a) (nI d), T) (4, stF (stF M' 4 (nI a)) 5 (nI d)) := by
  refine ⟨hK, ⟨fun r h0 h1 => ?_, fun x h4 h5 h6 h7 h8 => ?_, fun b k h1 h8 hk => ?_⟩, Or.inr (Or.inr ⟨rfl, rfl, a, d, ha, ha9, hd, rfl, ?_, ?_⟩)⟩
  · show stF (stF M' 4 (nI a)) 5 (nI d) r = M r
    rw [stF_ne h0, stF_ne h0]; exact hn.1 r h0 h1
  · show stF (stF M' 4 (nI a)) 5 (nI d) 0 x = M 0 x
    rw [stF_o h5, stF_o h4]; exact hn.2.1 x h6 h7 h8
  · show stF (stF M' 4 (nI a)) 5 (nI d) 1 (241 * b + k) = M 1 (241 * b + k)
    rw [stF_1, stF_1]; exact hn.2.2 _ (by omega)
  · show stF (stF M' 4 (nI a)) 5 (nI d) 0 4 = nI a
    rw [stF_o (by decide), stF_eq]
  · show stF (stF M' 4 (nI a)) 5 (nI d) 0 5 = nI d
    rw [stF_eq]
/-! loops -/
theorem loopN {α β : Type} (D : Nat → α → Int32 → Option β) (acc : Nat → α) (m : Nat) (fin : Option β)
    (h0 : ∀ n, D (n + 1) (acc m) (nI m) = fin) (hs : ∀ n i, i < m → D (n + 1) (acc i) (nI i) = D n (acc (i + 1)) (nI (i + 1))) : ∀ (d n i : Nat), i + d = m → d < n → D n (acc i) (nI i) = fin := by
  intro d
  induction d with
  | zero =>
    intro n i hi hn
    obtain ⟨n, rfl⟩ : ∃ k, n = k + 1 := ⟨n - 1, by omega⟩
    have hi : i = m := by omega
    rw [hi]
    exact h0 n
  | succ d ih =>
    intro n i hi hn
    obtain ⟨n, rfl⟩ : ∃ k, n = k + 1 := ⟨n - 1, by omega⟩
    rw [hs n i (by omega)]
    exact ih n (i + 1) (by omega) (by omega)
theorem loopE {β : Type} (D : Nat → Int32 → Option β) (P : Nat → Prop) (m : Nat) (fin : Option β) (res : Nat → Option β)
    (h0 : ∀ n, D (n + 1) (nI m) = fin) (hs : ∀ n i, i < m → ¬ P i → D (n + 1) (nI i) = D n (nI (i + 1))) (hp : ∀ n i, i < m → P i → D (n + 1) (nI i) = res i) :
    ∀ (d n i : Nat), i + d = m → d < n → ((∀ j, i ≤ j → j < m → ¬ P j) ∧ D n (nI i) = fin) ∨ ∃ j, i ≤ j ∧ j < m ∧ P j ∧ (∀ x, i ≤ x → x < j → ¬ P x) ∧ D n (nI i) = res j := by
  intro d
  induction d with
  | zero =>
    intro n i hi hn
    obtain ⟨n, rfl⟩ : ∃ k, n = k + 1 := ⟨n - 1, by omega⟩
    have hi : i = m := by omega
    rw [hi]
    exact Or.inl ⟨fun j h1 h2 => absurd h2 (by omega), h0 n⟩
  | succ d ih =>
    intro n i hi hn
    obtain ⟨n, rfl⟩ : ∃ k, n = k + 1 := ⟨n - 1, by omega⟩
    by_cases hp' : P i
    · exact Or.inr ⟨i, Nat.le_refl i, by omega, hp', fun x h1 h2 => absurd h2 (by omega), hp n i (by omega) hp'⟩
    · rw [hs n i (by omega) hp']
      rcases ih n (i + 1) (by omega) (by omega) with ⟨a, b⟩ | ⟨j, a, b, c, e, f⟩
      · refine Or.inl ⟨fun j h1 h2 => ?_, b⟩
        by_cases hj : j = i
        · rw [hj]; exact hp'
        · exact a j (by omega) h2
      · refine Or.inr ⟨j, by omega, b, c, fun x h1 h2 => ?_, f⟩
        by_cases hx : x = i
        · rw [hx]; exact hp'
        · exact e x (by omega) h2
theorem least_eq {P Q : Nat → Prop} {m i j : Nat} (hPQ : ∀ k, k < m → (P k ↔ Q k)) (hi : i < m) (hj : j < m) (p1 : P i) (p2 : ∀ x, x < i → ¬ P x) (q1 : Q j) (q2 : ∀ x, x < j → ¬ Q x) : i = j := by
  rcases Nat.lt_trichotomy i j with h | h | h
  · exact absurd ((hPQ i hi).mp p1) (q2 i h)
  · exact h
  · exact absurd ((hPQ j hj).mpr q1) (p2 j h)
theorem ile_t {a b : Nat} (h : a ≤ b) (hb : b < 2 ^ 31) : nI a ≤ nI b := (zI_le (by omega) hb).mpr h
theorem ile_f {a b : Nat} (h : b < a) (ha : a < 2 ^ 31) : ¬ nI a ≤ nI b := fun q => absurd ((zI_le ha (by omega)).mp q) (by omega)
theorem ine {a b : Nat} (h : a ≠ b) (ha : a < 2 ^ 31) (hb : b < 2 ^ 31) : ¬ nI a = nI b := fun q => h ((zI_eq ha hb).mp q)
theorem nv_nI {n : Nat} (h : n < 2 ^ 31) : nv (nI n) = n := zI_nat h
/-! sums -/
theorem sumN_zero (n : Nat) : sumN (fun _ => 0) n = 0 := by
  induction n with
  | zero => rfl
  | succ n ih => rw [sumN, ih]
theorem sumN_le {f g : Nat → Nat} {n : Nat} (h : ∀ k, k < n → f k ≤ g k) : sumN f n ≤ sumN g n := by
  induction n with
  | zero => exact Nat.le_refl _
  | succ n ih =>
    rw [sumN, sumN]
    exact Nat.add_le_add (ih (fun k hk => h k (Nat.lt_succ_of_lt hk))) (h n (Nat.lt_succ_self n))
theorem sumN_const (c n : Nat) : sumN (fun _ => c) n = n * c := by
  induction n with
  | zero => rw [sumN, Nat.zero_mul]
  | succ n ih => rw [sumN, ih, Nat.succ_mul]
theorem sumN_bd {f : Nat → Nat} {n c : Nat} (h : ∀ k, k < n → f k ≤ c) : sumN f n ≤ n * c := by
  rw [← sumN_const c n]
  exact sumN_le h
theorem sumN_one {F G : Nat → Nat} {q v : Nat} : ∀ {n : Nat}, q < n → (∀ p, p < n → p ≠ q → F p = G p) → F q = G q + v → sumN F n = sumN G n + v := by
  intro n
  induction n with
  | zero => intro h; omega
  | succ n ih =>
    intro h h1 h2
    rw [sumN, sumN]
    by_cases hq : q = n
    · subst hq
      rw [h2, sumN_congr (g := G) (fun p hp => h1 p (by omega) (by omega))]
      omega
    · rw [ih (by omega) (fun p hp => h1 p (by omega)) h2, h1 n (by omega) (fun e => hq e.symm)]
      omega
theorem sum_fib {P : Nat → Bool} {pr f g : Nat → Nat} {np : Nat} : ∀ (nf : Nat) (E : Nat → Bool), (∀ k, k < nf → P k = true → pr k < np ∧ f k = g (pr k)) → (∀ i j, i < nf → j < nf → P i = true → P j = true → pr i = pr j → i = j) → (∀ p, p < np → (E p = true ↔ ∃ k, k < nf ∧ P k = true ∧ pr k = p)) → sumN (fun k => if P k = true then f k else 0) nf = sumN (fun p => if E p = true then g p else 0) np := by
  intro nf
  induction nf with
  | zero =>
    intro E _ _ hE
    have h : sumN (fun p => if E p = true then g p else 0) np = sumN (fun _ => 0) np := sumN_congr (fun p hp => if_neg (fun q => by
      obtain ⟨k, hk, _⟩ := (hE p hp).mp q
      omega))
    rw [h, sumN_zero]
    rfl
  | succ nf ih =>
    intro E h1 h2 hE
    rw [sumN]
    by_cases hp : P nf = true
    · obtain ⟨h3, h4⟩ := h1 nf (Nat.lt_succ_self nf) hp
      rw [if_pos hp, ih (fun p => E p && !(decide (p = pr nf))) (fun k hk => h1 k (by omega)) (fun i j hi hj => h2 i j (by omega) (by omega)) ?_]
      · refine (sumN_one (q := pr nf) h3 (fun p hpn hne => ?_) ?_).symm
        · show (if E p = true then g p else 0) = if (E p && !(decide (p = pr nf))) = true then g p else 0
          rw [decide_eq_false hne, Bool.not_false, Bool.and_true]
        · show (if E (pr nf) = true then g (pr nf) else 0) = (if (E (pr nf) && !(decide (pr nf = pr nf))) = true then g (pr nf) else 0) + f nf
          rw [if_pos ((hE _ h3).mpr ⟨nf, Nat.lt_succ_self nf, hp, rfl⟩), decide_eq_true rfl, Bool.not_true, Bool.and_false, if_neg (by decide), h4, Nat.zero_add]
      · intro p hpn
        show (E p && !(decide (p = pr nf))) = true ↔ _
        rw [Bool.and_eq_true, Bool.not_eq_true', decide_eq_false_iff_not, hE p hpn]
        constructor
        · rintro ⟨⟨k, k1, k2, k3⟩, k4⟩
          have hk : k ≠ nf := fun e => k4 (by rw [← k3, e])
          exact ⟨k, by omega, k2, k3⟩
        · rintro ⟨k, k1, k2, k3⟩
          refine ⟨⟨k, by omega, k2, k3⟩, fun e => ?_⟩
          have := h2 k nf (by omega) (by omega) k2 hp (by rw [k3, e])
          omega
    · rw [if_neg hp, Nat.add_zero]
      refine ih E (fun k hk => h1 k (by omega)) (fun i j hi hj => h2 i j (by omega) (by omega)) (fun p hpn => (hE p hpn).trans ⟨?_, ?_⟩)
      · rintro ⟨k, k1, k2, k3⟩
        have hk : k ≠ nf := fun e => hp (by rw [← e]; exact k2)
        exact ⟨k, by omega, k2, k3⟩
      · rintro ⟨k, k1, k2, k3⟩
        exact ⟨k, by omega, k2, k3⟩
theorem loopI {α β : Type} (D : Nat → α → Int32 → Option β) (Inv : Nat → α → Prop) (m : Nat) (R : β → Prop) (h0 : ∀ n a, Inv m a → ∃ r, D (n + 1) a (nI m) = some r ∧ R r)
    (hs : ∀ n i a, i < m → Inv i a → (∃ r, D (n + 1) a (nI i) = some r ∧ R r) ∨ ∃ a', Inv (i + 1) a' ∧ D (n + 1) a (nI i) = D n a' (nI (i + 1))) : ∀ (d n i : Nat) (a : α), i + d = m → d < n → Inv i a → ∃ r, D n a (nI i) = some r ∧ R r := by
  intro d
  induction d with
  | zero =>
    intro n i a hi hn ha
    obtain ⟨n, rfl⟩ : ∃ k, n = k + 1 := ⟨n - 1, by omega⟩
    have hi : i = m := by omega
    rw [hi] at ha ⊢
    exact h0 n a ha
  | succ d ih =>
    intro n i a hi hn ha
    obtain ⟨n, rfl⟩ : ∃ k, n = k + 1 := ⟨n - 1, by omega⟩
    rcases hs n i a (by omega) ha with h | ⟨a', h1, h2⟩
    · exact h
    · rw [h2]
      exact ih n (i + 1) a' (by omega) (by omega) h1
