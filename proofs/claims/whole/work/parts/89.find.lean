/-! a request found by its place -/
theorem forK_len_step {k : Nat} {l : List Rq} {x : Rq} : (forK k (l ++ [x])).length = (forK k l).length + (if x.1 = nI k then 1 else 0) := by
  rw [forK_app, List.length_append]
  by_cases h : x.1 = nI k
  · rw [if_pos h, forK_in h]; rfl
  · rw [if_neg h, forK_out h]; rfl
theorem forK_len_le (k : Nat) (l : List Rq) : (forK k l).length ≤ l.length := List.length_filter_le _ _
theorem rqT_len (T : RM) (n : Nat) : (rqT T n).length = n := by
  unfold rqT
  rw [List.length_map, List.length_range]
theorem rqA_len (A : Nat → Int32) (n : Nat) : (rqA A n).length = n := by
  unfold rqA
  rw [List.length_map, List.length_range]
theorem c_find {N : Nat} {T : RM} {nr k p : Nat} (hN : 24 < N) (hnr : nr ≤ 20) (d7 : T 0 5 = nI nr) (hp : p < 2 ^ 31) : ((forK k (rqT T nr)).length ≤ p ∧ F_X4_find N T (nI k) (nI p) = some (-1)) ∨ ∃ i, i < nr ∧ T 15 i = nI k ∧ (forK k (rqT T i)).length = p ∧ F_X4_find N T (nI k) (nI p) = some (nI i) := by
  have hlen : ∀ i, (forK k (rqT T i)).length ≤ i := fun i => by
    have := forK_len_le k (rqT T i)
    rw [rqT_len] at this
    exact this
  obtain ⟨r, h1, h2⟩ := loopI (fun n a i => D_X4_find_5 N T n (nI k) (nI p) a i) (fun i a => a = nI (forK k (rqT T i)).length ∧ (forK k (rqT T i)).length ≤ p) nr (fun r => ((forK k (rqT T nr)).length ≤ p ∧ r = -1) ∨ ∃ i, i < nr ∧ T 15 i = nI k ∧ (forK k (rqT T i)).length = p ∧ r = nI i)
    (fun n a ha => ⟨-1, by
      show D_X4_find_5 N T (n + 1) (nI k) (nI p) a (nI nr) = some (-1)
      rw [D_X4_find_5, d7, if_pos (ile_t (Nat.le_refl nr) (by omega))], Or.inl ⟨ha.2, rfl⟩⟩)
    (fun n i a hi ha => by
      show (∃ r, D_X4_find_5 N T (n + 1) (nI k) (nI p) a (nI i) = some r ∧ _) ∨ ∃ a', _ ∧ D_X4_find_5 N T (n + 1) (nI k) (nI p) a (nI i) = D_X4_find_5 N T n (nI k) (nI p) a' (nI (i + 1))
      have hl := hlen i
      have hs := forK_len_step (k := k) (l := rqT T i) (x := (T 15 i, T 16 i, T 17 i))
      rw [← rqT_succ] at hs
      have hs : (forK k (rqT T (i + 1))).length = (forK k (rqT T i)).length + (if T 15 i = nI k then 1 else 0) := hs
      rw [D_X4_find_5, d7, if_neg (ile_f hi (by omega)), zI_rg (by omega) (by omega), zI_succ, ha.1]
      by_cases h15 : T 15 i = nI k
      · rw [if_pos h15] at hs ⊢
        by_cases hpl : (forK k (rqT T i)).length = p
        · rw [if_pos (by rw [hpl])]
          exact Or.inl ⟨nI i, rfl, Or.inr ⟨i, hi, h15, hpl, rfl⟩⟩
        · rw [if_neg (ine hpl (by omega) hp), zI_succ]
          exact Or.inr ⟨_, ⟨by rw [hs], by have := ha.2; omega⟩, rfl⟩
      · rw [if_neg h15] at hs ⊢
        exact Or.inr ⟨_, ⟨by rw [hs, Nat.add_zero], by have := ha.2; omega⟩, rfl⟩) nr N 0 0 (by omega) (by omega) ⟨rfl, Nat.zero_le _⟩
  have h1 : F_X4_find N T (nI k) (nI p) = some r := h1
  rcases h2 with ⟨a, b⟩ | ⟨i, a, b, c, d⟩
  · exact Or.inl ⟨a, by rw [h1, b]⟩
  · exact Or.inr ⟨i, a, b, c, by rw [h1, d]⟩
theorem c_find_neg {N : Nat} {T : RM} {nr k : Nat} {v : Int32} (hN : 24 < N) (hnr : nr ≤ 20) (d7 : T 0 5 = nI nr) (hv : v < 0) : F_X4_find N T (nI k) v = some (-1) := by
  obtain ⟨r, h1, h2⟩ := loopI (fun n a i => D_X4_find_5 N T n (nI k) v a i) (fun i a => ∃ c, c ≤ i ∧ a = nI c) nr (fun r => r = -1)
    (fun n a ha => ⟨-1, by
      show D_X4_find_5 N T (n + 1) (nI k) v a (nI nr) = some (-1)
      rw [D_X4_find_5, d7, if_pos (ile_t (Nat.le_refl nr) (by omega))], rfl⟩)
    (fun n i a hi ha => by
      show (∃ r, D_X4_find_5 N T (n + 1) (nI k) v a (nI i) = some r ∧ _) ∨ ∃ a', _ ∧ D_X4_find_5 N T (n + 1) (nI k) v a (nI i) = D_X4_find_5 N T n (nI k) v a' (nI (i + 1))
      obtain ⟨c, hc, rfl⟩ := ha
      rw [D_X4_find_5, d7, if_neg (ile_f hi (by omega)), zI_rg (by omega) (by omega), zI_succ, zI_succ]
      by_cases h15 : T 15 i = nI k
      · rw [if_pos h15, if_neg (fun e => by
          rw [← e] at hv
          exact absurd (zI_pos (a := c) (by omega)) (Int32.not_le.mpr hv))]
        exact Or.inr ⟨_, ⟨c + 1, by omega, rfl⟩, rfl⟩
      · rw [if_neg h15]
        exact Or.inr ⟨_, ⟨c, by omega, rfl⟩, rfl⟩) nr N 0 0 (by omega) (by omega) ⟨0, Nat.le_refl 0, rfl⟩
  have h1 : F_X4_find N T (nI k) v = some r := h1
  rw [h1, h2]
theorem zI_pred {n : Nat} (h : 1 ≤ n) : nI n + (-1) = nI (n - 1) := (Int32.sub_eq_add_neg (nI n) 1).symm.trans (zI_sub (b := 1) h)
/-- those of a priority, for a performance -/
def cq (A : Nat → Int32) (k pr q : Nat) : Nat := (prF pr (forK k (rqA A q))).length
theorem cq_step (A : Nat → Int32) (k pr q : Nat) : cq A k pr (q + 1) = cq A k pr q + (if A (181 + 3 * q) = nI k then (if A (181 + 3 * q + 2) = nI pr then 1 else 0) else 0) := by
  unfold cq
  rw [rqA_succ, forK_app, prF_app, List.length_append]
  congr 1
  by_cases h1 : A (181 + 3 * q) = nI k
  · rw [if_pos h1, forK_in (show (A (181 + 3 * q), A (181 + 3 * q + 1), A (181 + 3 * q + 2)).1 = nI k from h1)]
    by_cases h2 : A (181 + 3 * q + 2) = nI pr
    · rw [if_pos h2, prF_in (show (A (181 + 3 * q), A (181 + 3 * q + 1), A (181 + 3 * q + 2)).2.2 = nI pr from h2)]; rfl
    · rw [if_neg h2, prF_out (show (A (181 + 3 * q), A (181 + 3 * q + 1), A (181 + 3 * q + 2)).2.2 ≠ nI pr from h2)]; rfl
  · rw [if_neg h1, forK_out (show (A (181 + 3 * q), A (181 + 3 * q + 1), A (181 + 3 * q + 2)).1 ≠ nI k from h1)]; rfl
theorem cq_le (A : Nat → Int32) (k pr : Nat) : ∀ q, cq A k pr q ≤ q := by
  intro q
  induction q with
  | zero => exact Nat.le_refl 0
  | succ q ih =>
    rw [cq_step]
    by_cases h1 : A (181 + 3 * q) = nI k
    · rw [if_pos h1]
      by_cases h2 : A (181 + 3 * q + 2) = nI pr
      · rw [if_pos h2]; omega
      · rw [if_neg h2]; omega
    · rw [if_neg h1]; omega
theorem r_inner {N : Nat} {M : RM} {nr k pr L : Nat} {k6 : Int32 → Int32 → Int32 → Int32 → Option Int32} {v2 : Int32} (hnr : nr ≤ 20) (d8 : M 1 180 = nI nr) (hL : L < 2 ^ 31) :
    ∀ (dd n q : Nat), q + dd = nr → dd < n → cq (M 1) k pr q ≤ L → (cq (M 1) k pr nr ≤ L ∧ D_X9_requestAt_18 N M k6 n (nI k) v2 (nI (L - cq (M 1) k pr q)) (nI pr) (nI q) = k6 (nI k) v2 (nI (L - cq (M 1) k pr nr)) (nI pr + (-1))) ∨ ∃ q', q' < nr ∧ M 1 (181 + 3 * q') = nI k ∧ M 1 (181 + 3 * q' + 2) = nI pr ∧ cq (M 1) k pr q' = L ∧ D_X9_requestAt_18 N M k6 n (nI k) v2 (nI (L - cq (M 1) k pr q)) (nI pr) (nI q) = some (nI q') := by
  have e180 : M 1 (180 : Int32).toNatClampNeg = nI nr := d8
  intro dd
  induction dd with
  | zero =>
    intro n q hq hn hc
    obtain ⟨n, rfl⟩ : ∃ k, n = k + 1 := ⟨n - 1, by omega⟩
    obtain rfl : q = nr := by omega
    exact Or.inl ⟨hc, by rw [D_X9_requestAt_18, if_pos (by decide), e180, if_pos (ile_t (Nat.le_refl q) (by omega))]⟩
  | succ dd ih =>
    intro n q hq hn hc
    obtain ⟨n, rfl⟩ : ∃ k, n = k + 1 := ⟨n - 1, by omega⟩
    have hs := cq_step (M 1) k pr q
    have hih := ih n (q + 1) (by omega) (by omega)
    rw [D_X9_requestAt_18, if_pos (by decide), e180, if_neg (ile_f (by omega) (by omega)), z_r (v2 := 0) q 0 rfl rfl (by omega) (by omega), Option.bind_some, z_r (v2 := 2) q 2 rfl rfl (by omega) (by omega), Option.bind_some, Nat.add_zero, zI_succ]
    by_cases h1 : M 1 (181 + 3 * q) = nI k
    · rw [if_pos h1] at hs ⊢
      by_cases h2 : M 1 (181 + 3 * q + 2) = nI pr
      · rw [if_pos h2] at hs ⊢
        by_cases h3 : cq (M 1) k pr q = L
        · rw [if_pos (show nI (L - cq (M 1) k pr q) = 0 by rw [h3, Nat.sub_self]; rfl)]
          exact Or.inr ⟨q, by omega, h1, h2, h3, rfl⟩
        · rw [if_neg (show ¬ nI (L - cq (M 1) k pr q) = 0 from ine (b := 0) (by omega) (by omega) (by omega)), show nI (L - cq (M 1) k pr q) + (-1) = nI (L - cq (M 1) k pr (q + 1)) by
            rw [hs, zI_pred (by omega), Nat.sub_sub]]
          exact hih (by omega)
      · rw [if_neg h2] at hs
        have hs : cq (M 1) k pr (q + 1) = cq (M 1) k pr q := hs
        rw [if_neg h2, ← hs]
        exact hih (by omega)
    · rw [if_neg h1] at hs
      have hs : cq (M 1) k pr (q + 1) = cq (M 1) k pr q := hs
      rw [if_neg h1, ← hs]
      exact hih (by omega)
/-- the priorities, counted down -/
def pv : Nat → Int32
  | 0 => -1
  | s + 1 => nI s
theorem pv_step (s : Nat) (hs : s < 2 ^ 31) : nI s + (-1) = pv s := by
  cases s with
  | zero => rfl
  | succ s => exact zI_pred (Nat.le_add_left 1 s)
theorem r_outer {N : Nat} {M : RM} {nr k p : Nat} (hN : 24 < N) (hnr : nr ≤ 20) (d8 : M 1 180 = nI nr) (hp : p < 2 ^ 31) :
    ∀ (s n L : Nat), s < n → s ≤ 10 → L ≤ p → ((byS (forK k (rqA (M 1) nr)) s).length ≤ L ∧ D_X9_requestAt_6 N M n (nI k) (nI p) (nI L) (pv s) = some (-1)) ∨ ∃ q pr, q < nr ∧ pr < s ∧ M 1 (181 + 3 * q) = nI k ∧ M 1 (181 + 3 * q + 2) = nI pr ∧ L + (byS (forK k (rqA (M 1) nr)) (pr + 1)).length = (byS (forK k (rqA (M 1) nr)) s).length + cq (M 1) k pr q ∧ D_X9_requestAt_6 N M n (nI k) (nI p) (nI L) (pv s) = some (nI q) := by
  intro s
  induction s with
  | zero =>
    intro n L hn hs hL
    obtain ⟨n, rfl⟩ : ∃ k, n = k + 1 := ⟨n - 1, by omega⟩
    exact Or.inl ⟨Nat.zero_le _, by rw [D_X9_requestAt_6, if_pos (by decide)]⟩
  | succ s ih =>
    intro n L hn hs hL
    obtain ⟨n, rfl⟩ : ∃ k, n = k + 1 := ⟨n - 1, by omega⟩
    have hunf : D_X9_requestAt_6 N M (n + 1) (nI k) (nI p) (nI L) (pv (s + 1)) = D_X9_requestAt_18 N M (D_X9_requestAt_6 N M n) N (nI k) (nI p) (nI (L - cq (M 1) k s 0)) (nI s) (nI 0) := by
      show D_X9_requestAt_6 N M (n + 1) (nI k) (nI p) (nI L) (nI s) = D_X9_requestAt_18 N M (D_X9_requestAt_6 N M n) N (nI k) (nI p) (nI L) (nI s) 0
      rw [D_X9_requestAt_6, if_neg (Int32.not_lt.mpr (zI_pos (by omega))), if_neg (Int32.not_lt.mpr (zI_pos hp))]
    have hlen : (byS (forK k (rqA (M 1) nr)) (s + 1)).length = cq (M 1) k s nr + (byS (forK k (rqA (M 1) nr)) s).length := by
      rw [byS, List.length_append]; rfl
    rcases r_inner (N := N) (k := k) (pr := s) (L := L) (k6 := D_X9_requestAt_6 N M n) (v2 := nI p) hnr d8 (show L < 2 ^ 31 by omega) nr N 0 (by omega) (by omega) (Nat.zero_le _) with ⟨a, b⟩ | ⟨q, a, b, c, d, e⟩
    · rw [pv_step s (by omega)] at b
      rcases ih n (L - cq (M 1) k s nr) (by omega) (by omega) (by omega) with ⟨x, y⟩ | ⟨q, pr, x1, x2, x3, x4, x5, x6⟩
      · exact Or.inl ⟨by omega, by rw [hunf, b, y]⟩
      · exact Or.inr ⟨q, pr, x1, by omega, x3, x4, by omega, by rw [hunf, b, x6]⟩
    · exact Or.inr ⟨q, s, a, Nat.lt_succ_self s, b, c, by rw [d]; omega, by rw [hunf, e]⟩
/-- both sides find the same request -/
theorem z_find {N : Nat} {T M : RM} {nf nr k p : Nat} (hN : 24 < N) (hnr : nr ≤ 20) (d7 : T 0 5 = nI nr) (d8 : M 1 180 = nI nr) (hp : p < 2 ^ 31) (hreq : RReq T (M 1) nf nr) (hk : k < nf) :
    ((forK k (rqT T nr)).length ≤ p ∧ F_X4_find N T (nI k) (nI p) = some (-1) ∧ F_X9_requestAt N M (nI k) (nI p) = some (-1)) ∨
    ∃ i q, i < nr ∧ q < nr ∧ F_X4_find N T (nI k) (nI p) = some (nI i) ∧ F_X9_requestAt N M (nI k) (nI p) = some (nI q) ∧ T 15 i = nI k ∧ M 1 (181 + 3 * q) = nI k ∧ T 16 i = M 1 (181 + 3 * q + 1) ∧ T 17 i = M 1 (181 + 3 * q + 2) ∧
      ∀ l2T l2A : List Rq, rqT T nr = rqT T i ++ (T 15 i, T 16 i, T 17 i) :: l2T → rqA (M 1) nr = rqA (M 1) q ++ (M 1 (181 + 3 * q), M 1 (181 + 3 * q + 1), M 1 (181 + 3 * q + 2)) :: l2A → forK k (rqT T i ++ l2T) = byP (forK k (rqA (M 1) q ++ l2A)) := by
  have hR := hreq.1 k hk
  have hpri : ∀ x, x ∈ forK k (rqA (M 1) nr) → ∃ p, p ≤ 9 ∧ x.2.2 = nI p := by
    intro x hx
    obtain ⟨q, q1, q2⟩ := rqA_mem (List.mem_filter.mp hx).1
    obtain ⟨-, -, -, z, z1, z2⟩ := hreq.2 q q1
    exact ⟨z, z2, by rw [q2]; exact z1⟩
  have hlenR : (forK k (rqT T nr)).length = (byS (forK k (rqA (M 1) nr)) 10).length := by rw [hR, byP_S]
  have hcf := c_find (N := N) (k := k) (p := p) hN hnr d7 hp
  have hro := r_outer (N := N) (k := k) hN hnr d8 hp 10 N p (by omega) (by omega) (Nat.le_refl p)
  have hat : F_X9_requestAt N M (nI k) (nI p) = D_X9_requestAt_6 N M N (nI k) (nI p) (nI p) (pv 10) := rfl
  -- the lists, cut at a place
  have cutT : ∀ i, i < nr → ∃ l2, rqT T nr = rqT T i ++ (T 15 i, T 16 i, T 17 i) :: l2 := fun i hi => by
    refine ⟨(List.range (nr - i - 1)).map (fun j => (T 15 (i + 1 + j), T 16 (i + 1 + j), T 17 (i + 1 + j))), ?_⟩
    have h := map_cut (fun q => (T 15 q, T 16 q, T 17 q)) i (nr - i - 1)
    rw [show i + (nr - i - 1 + 1) = nr by omega] at h
    exact h
  have cutA : ∀ i, i < nr → ∃ l2, rqA (M 1) nr = rqA (M 1) i ++ (M 1 (181 + 3 * i), M 1 (181 + 3 * i + 1), M 1 (181 + 3 * i + 2)) :: l2 := fun i hi => by
    refine ⟨(List.range (nr - i - 1)).map (fun j => (M 1 (181 + 3 * (i + 1 + j)), M 1 (181 + 3 * (i + 1 + j) + 1), M 1 (181 + 3 * (i + 1 + j) + 2))), ?_⟩
    have h := map_cut (fun q => (M 1 (181 + 3 * q), M 1 (181 + 3 * q + 1), M 1 (181 + 3 * q + 2))) i (nr - i - 1)
    rw [show i + (nr - i - 1 + 1) = nr by omega] at h
    exact h
  -- what the reference found, by priority
  have hA : ∀ q pr, q < nr → pr < 10 → M 1 (181 + 3 * q) = nI k → M 1 (181 + 3 * q + 2) = nI pr → p + (byS (forK k (rqA (M 1) nr)) (pr + 1)).length = (byS (forK k (rqA (M 1) nr)) 10).length + cq (M 1) k pr q → ∀ l2A : List Rq, rqA (M 1) nr = rqA (M 1) q ++ (M 1 (181 + 3 * q), M 1 (181 + 3 * q + 1), M 1 (181 + 3 * q + 2)) :: l2A → ∃ B1 B2, byP (forK k (rqA (M 1) nr)) = B1 ++ (M 1 (181 + 3 * q), M 1 (181 + 3 * q + 1), M 1 (181 + 3 * q + 2)) :: B2 ∧ B1.length = p ∧ byP (forK k (rqA (M 1) q ++ l2A)) = B1 ++ B2 := by
    intro q pr hq hpr h1 h2 h3 l2A hl
    have hx : forK k (rqA (M 1) nr) = forK k (rqA (M 1) q) ++ (M 1 (181 + 3 * q), M 1 (181 + 3 * q + 1), M 1 (181 + 3 * q + 2)) :: forK k l2A := by
      rw [hl, forK_app, forK_in (show (M 1 (181 + 3 * q), M 1 (181 + 3 * q + 1), M 1 (181 + 3 * q + 2)).1 = nI k from h1)]
    obtain ⟨B1, B2, b1, b2, b3⟩ := byS_cut (a := forK k (rqA (M 1) q)) (b := forK k l2A) (x := (M 1 (181 + 3 * q), M 1 (181 + 3 * q + 1), M 1 (181 + 3 * q + 2))) (p := pr) h2 (by omega) (s := 10) hpr (by omega)
    rw [← hx] at b1 b3
    have h4 : (prF pr (forK k (rqA (M 1) q))).length = cq (M 1) k pr q := rfl
    refine ⟨B1, B2, by rw [byP_S, b1], by omega, by rw [byP_S, forK_app, b2]⟩
  rcases hcf with ⟨x1, x2⟩ | ⟨i, i1, i2, i3, i4⟩
  · rcases hro with ⟨y1, y2⟩ | ⟨q, pr, y1, y2, y3, y4, y5, y6⟩
    · exact Or.inl ⟨x1, x2, hat.trans y2⟩
    · obtain ⟨l2, hl2⟩ := cutA q y1
      obtain ⟨B1, B2, b1, b2, -⟩ := hA q pr y1 y2 y3 y4 y5 l2 hl2
      rw [hR, b1, List.length_append, List.length_cons] at x1
      omega
  · obtain ⟨l2T0, hlT0⟩ := cutT i i1
    have hT : ∀ l2T : List Rq, rqT T nr = rqT T i ++ (T 15 i, T 16 i, T 17 i) :: l2T → forK k (rqT T nr) = forK k (rqT T i) ++ (T 15 i, T 16 i, T 17 i) :: forK k l2T := fun l2T h => by
      rw [h, forK_app, forK_in (show (T 15 i, T 16 i, T 17 i).1 = nI k from i2)]
    rcases hro with ⟨y1, y2⟩ | ⟨q, pr, y1, y2, y3, y4, y5, y6⟩
    · rw [← hlenR, hT l2T0 hlT0, List.length_append, List.length_cons, i3] at y1
      omega
    · obtain ⟨l2A0, hlA0⟩ := cutA q y1
      obtain ⟨B1, B2, b1, b2, -⟩ := hA q pr y1 y2 y3 y4 y5 l2A0 hlA0
      have h0 := hR
      rw [hT l2T0 hlT0, b1] at h0
      obtain ⟨g1, g2⟩ := List.append_inj h0 (by rw [i3, b2])
      injection g2 with g3 g4
      injection g3 with g5 g6
      injection g6 with g7 g8
      refine Or.inr ⟨i, q, i1, y1, i4, hat.trans y6, i2, y3, g7, g8, fun l2T l2A hlT hlA => ?_⟩
      obtain ⟨B1', B2', c1, c2, c3⟩ := hA q pr y1 y2 y3 y4 y5 l2A hlA
      have h1 := hR
      rw [hT l2T hlT, c1] at h1
      obtain ⟨f1, f2⟩ := List.append_inj h1 (by rw [i3, c2])
      injection f2 with f3 f4
      rw [c3, forK_app, f1, f4]
