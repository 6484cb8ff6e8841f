/-! cancel: the requests -/
def dropL (q : Nat) : List Rq → List Rq
  | [] => []
  | x :: l => if x.1 = nI q then dropL q l else if x.1 ≤ nI q then x :: dropL q l else (x.1 - 1, x.2.1, x.2.2) :: dropL q l
def dec1 (x : Rq) : Rq := (x.1 - 1, x.2.1, x.2.2)
theorem dropL_lt {q k nf : Nat} (hk : k < q) (hq : q < nf) (hf : nf ≤ 24) : ∀ {l : List Rq}, (∀ x, x ∈ l → ∃ j, j < nf ∧ x.1 = nI j) → forK k (dropL q l) = forK k l := by
  intro l
  induction l with
  | nil => intro _; rfl
  | cons x l ih =>
    intro h
    obtain ⟨j, j1, j2⟩ := h x List.mem_cons_self
    have hi := ih (fun y hy => h y (List.mem_cons_of_mem x hy))
    rw [dropL]
    rcases Nat.lt_trichotomy j q with hj | hj | hj
    · rw [if_neg (by rw [j2]; exact ine (by omega) (by omega) (by omega)), if_pos (by rw [j2]; exact ile_t (by omega) (by omega))]
      by_cases hx : x.1 = nI k
      · rw [forK_in hx, forK_in hx, hi]
      · rw [forK_out hx, forK_out hx, hi]
    · rw [if_pos (by rw [j2, hj]), hi, forK_out (by rw [j2]; exact ine (by omega) (by omega) (by omega))]
    · rw [if_neg (by rw [j2]; exact ine (by omega) (by omega) (by omega)), if_neg (by rw [j2]; exact ile_f hj (by omega)), forK_out (show x.1 - 1 ≠ nI k by rw [j2, show nI j - 1 = nI (j - 1) from zI_sub (b := 1) (by omega)]; exact ine (by omega) (by omega) (by omega)), forK_out (by rw [j2]; exact ine (by omega) (by omega) (by omega)), hi]
theorem dropL_ge {q k nf : Nat} (hk : q ≤ k) (hkf : k + 1 < nf) (hf : nf ≤ 24) : ∀ {l : List Rq}, (∀ x, x ∈ l → ∃ j, j < nf ∧ x.1 = nI j) → forK k (dropL q l) = (forK (k + 1) l).map dec1 := by
  intro l
  induction l with
  | nil => intro _; rfl
  | cons x l ih =>
    intro h
    obtain ⟨j, j1, j2⟩ := h x List.mem_cons_self
    have hi := ih (fun y hy => h y (List.mem_cons_of_mem x hy))
    rw [dropL]
    rcases Nat.lt_trichotomy j q with hj | hj | hj
    · rw [if_neg (by rw [j2]; exact ine (by omega) (by omega) (by omega)), if_pos (by rw [j2]; exact ile_t (by omega) (by omega)), forK_out (by rw [j2]; exact ine (by omega) (by omega) (by omega)), forK_out (by rw [j2]; exact ine (by omega) (by omega) (by omega)), hi]
    · rw [if_pos (by rw [j2, hj]), hi, forK_out (by rw [j2]; exact ine (by omega) (by omega) (by omega))]
    · have e : x.1 - 1 = nI (j - 1) := by rw [j2]; exact zI_sub (b := 1) (by omega)
      rw [if_neg (by rw [j2]; exact ine (by omega) (by omega) (by omega)), if_neg (by rw [j2]; exact ile_f hj (by omega))]
      by_cases hjk : j = k + 1
      · rw [forK_in (show x.1 - 1 = nI k by rw [e, hjk]; rfl), forK_in (show x.1 = nI (k + 1) by rw [j2, hjk]), hi]
        rfl
      · rw [forK_out (show x.1 - 1 ≠ nI k by rw [e]; exact ine (by omega) (by omega) (by omega)), forK_out (show x.1 ≠ nI (k + 1) by rw [j2]; exact ine hjk (by omega) (by omega)), hi]
theorem prF_dec (p : Nat) (l : List Rq) : prF p (l.map dec1) = (prF p l).map dec1 := by
  induction l with
  | nil => rfl
  | cons x l ih =>
    rw [List.map_cons]
    by_cases h : x.2.2 = nI p
    · rw [prF_in (show (dec1 x).2.2 = nI p from h), prF_in h, ih]; rfl
    · rw [prF_out (show (dec1 x).2.2 ≠ nI p from h), prF_out h, ih]
theorem byS_dec (l : List Rq) : ∀ s, byS (l.map dec1) s = (byS l s).map dec1 := by
  intro s
  induction s with
  | zero => rfl
  | succ s ih => rw [byS, byS, ih, prF_dec, List.map_append]
theorem byP_dec (l : List Rq) : byP (l.map dec1) = (byP l).map dec1 := by rw [byP_S, byP_S, byS_dec]
theorem dropL_mem {q nf : Nat} (hf : nf ≤ 24) (hq : q < nf) : ∀ {l : List Rq}, (∀ x, x ∈ l → ∃ j, j < nf ∧ x.1 = nI j) → ∀ y, y ∈ dropL q l → (∃ j, j < nf - 1 ∧ y.1 = nI j) ∧ ∃ x, x ∈ l ∧ y.2 = x.2 := by
  intro l
  induction l with
  | nil => intro _ y hy; cases hy
  | cons x l ih =>
    intro h y hy
    obtain ⟨j, j1, j2⟩ := h x List.mem_cons_self
    have hi := ih (fun y hy => h y (List.mem_cons_of_mem x hy))
    have up : y ∈ dropL q l → (∃ j, j < nf - 1 ∧ y.1 = nI j) ∧ ∃ z, z ∈ x :: l ∧ y.2 = z.2 := fun hy => by
      obtain ⟨a, z, z1, z2⟩ := hi y hy
      exact ⟨a, z, List.mem_cons_of_mem x z1, z2⟩
    rw [dropL] at hy
    rcases Nat.lt_trichotomy j q with hj | hj | hj
    · rw [if_neg (by rw [j2]; exact ine (by omega) (by omega) (by omega)), if_pos (by rw [j2]; exact ile_t (by omega) (by omega))] at hy
      rcases List.mem_cons.mp hy with e | e
      · rw [e]; exact ⟨⟨j, by omega, j2⟩, x, List.mem_cons_self, rfl⟩
      · exact up e
    · rw [if_pos (by rw [j2, hj])] at hy
      exact up hy
    · rw [if_neg (by rw [j2]; exact ine (by omega) (by omega) (by omega)), if_neg (by rw [j2]; exact ile_f hj (by omega))] at hy
      rcases List.mem_cons.mp hy with e | e
      · rw [e]; exact ⟨⟨j - 1, by omega, by rw [j2]; exact zI_sub (b := 1) (by omega)⟩, x, List.mem_cons_self, rfl⟩
      · exact up e
/-- a list read off cells, cut where it is cut -/
theorem seg_cut {g : Nat → Rq} {c j : Nat} {L1 L2 : List Rq} {x : Rq} (h : (List.range c).map g = L1 ++ x :: L2) (hj : L1.length = j) : j < c ∧ g j = x ∧ (List.range j).map g = L1 ∧ (List.range (c - j - 1)).map (fun t => g (j + 1 + t)) = L2 := by
  have hl := congrArg List.length h
  rw [List.length_map, List.length_range, List.length_append, List.length_cons] at hl
  have hc := map_cut g j (c - j - 1)
  rw [show j + (c - j - 1 + 1) = c by omega, h] at hc
  obtain ⟨a, b⟩ := List.append_inj hc (by rw [List.length_map, List.length_range, hj])
  injection b with b1 b2
  exact ⟨by omega, b1.symm, a.symm, b2.symm⟩
theorem seg_put {g g' : Nat → Rq} {c j : Nat} (hj : j < c) (h : ∀ i, i ≠ j → i < c → g' i = g i) : (List.range c).map g' = (List.range j).map g ++ g' j :: (List.range (c - j - 1)).map (fun t => g (j + 1 + t)) := by
  have hc := map_cut g' j (c - j - 1)
  rw [show j + (c - j - 1 + 1) = c by omega] at hc
  rw [hc]
  congr 1
  · refine List.map_congr_left (fun i hi => ?_)
    have := List.mem_range.mp hi
    exact h i (by omega) (by omega)
  · congr 1
    refine List.map_congr_left (fun i hi => ?_)
    have := List.mem_range.mp hi
    exact h _ (by omega) (by omega)
def gT (T : RM) : Nat → Rq := fun q => (T 15 q, T 16 q, T 17 q)
def gA (A : Nat → Int32) : Nat → Rq := fun q => (A (181 + 3 * q), A (181 + 3 * q + 1), A (181 + 3 * q + 2))
/-- the class's loop -/
theorem c_dropL {N q : Nat} (hN : 24 < N) (hq : q < 24) : ∀ (i n : Nat) (L1 L2 : List Rq) (T : RM) (c : Nat), i < n → L1.length = i → c ≤ 20 → T 0 5 = nI c → rqT T c = L1 ++ dropL q L2 → (∀ x, x ∈ L1 → ∃ j, j < 24 ∧ x.1 = nI j) → ∃ (T' : RM) (c' : Nat), D_X4_dropPerformance_7 N n T (nI q) (nI i - 1) = some T' ∧ c' ≤ c ∧ T' 0 5 = nI c' ∧ rqT T' c' = dropL q (L1 ++ L2) ∧ (∀ x, x ≠ 5 → T' 0 x = T 0 x) ∧ ∀ r, r ≠ 0 → r ≠ 15 → r ≠ 16 → r ≠ 17 → T' r = T r := by
  intro i
  induction i with
  | zero =>
    intro n L1 L2 T c hn h1 hc h5 hL hx
    obtain ⟨n, rfl⟩ : ∃ k, n = k + 1 := ⟨n - 1, by omega⟩
    have e : L1 = [] := List.length_eq_zero_iff.mp h1
    subst e
    exact ⟨T, c, by rw [D_X4_dropPerformance_7, if_pos (by decide)], Nat.le_refl c, h5, hL, fun _ _ => rfl, fun _ _ _ _ _ => rfl⟩
  | succ i ih =>
    intro n L1 L2 T c hn h1 hc h5 hL hx
    obtain ⟨n, rfl⟩ : ∃ k, n = k + 1 := ⟨n - 1, by omega⟩
    have hne : L1 ≠ [] := fun e => by rw [e] at h1; cases h1
    obtain ⟨L0, x, rfl⟩ : ∃ L0 x, L1 = L0 ++ [x] := ⟨L1.dropLast, L1.getLast hne, (List.dropLast_concat_getLast hne).symm⟩
    have h0 : L0.length = i := by
      rw [List.length_append] at h1
      simpa using h1
    have hL' : (List.range c).map (gT T) = L0 ++ x :: dropL q L2 := by
      rw [← List.singleton_append, ← List.append_assoc]; exact hL
    obtain ⟨k1, k2, k3, k4⟩ := seg_cut hL' h0
    obtain ⟨j, j1, j2⟩ := hx x (List.mem_append_right L0 List.mem_cons_self)
    have hx0 : ∀ y, y ∈ L0 → ∃ j, j < 24 ∧ y.1 = nI j := fun y hy => hx y (List.mem_append_left _ hy)
    have e15 : T 15 i = nI j := (congrArg (fun y : Rq => y.1) k2).trans j2
    have ei : nI (i + 1) - 1 = nI i := zI_sub (a := i + 1) (b := 1) (by omega)
    have ed : nI i + (-1 : Int32) = nI i - 1 := (Int32.sub_eq_add_neg (nI i) 1).symm
    have eapp : (L0 ++ [x]) ++ L2 = L0 ++ (x :: L2) := by rw [List.append_assoc]; rfl
    rw [ei, eapp, D_X4_dropPerformance_7, if_neg (Int32.not_lt.mpr (zI_pos (by omega))), zI_rg (by omega) (by omega), e15, ed]
    rcases Nat.lt_trichotomy j q with hj | hj | hj
    · rw [if_neg (ine (by omega) (by omega) (by omega)), if_pos (ile_t (by omega) (by omega))]
      have hd : dropL q (x :: L2) = x :: dropL q L2 := by
        rw [dropL, if_neg (by rw [j2]; exact ine (by omega) (by omega) (by omega)), if_pos (by rw [j2]; exact ile_t (by omega) (by omega))]
      exact ih n L0 (x :: L2) T c (by omega) h0 hc h5 (by rw [hd]; exact hL') hx0
    · rw [if_pos (by rw [hj]), c_rm4 (i := i) (nr := c) hN k1 hc h5, Option.bind_some]
      have hd : dropL q (x :: L2) = dropL q L2 := by rw [dropL, if_pos (by rw [j2, hj])]
      generalize hT1 : stF (u1 (u1 (u1 T 15 (rmA 20 (T 15) i 20)) 16 (rmA 20 (T 16) i 20)) 17 (rmA 20 (T 17) i 20)) 5 (nI (c - 1)) = T1
      have p0 : ∀ x, x ≠ 5 → T1 0 x = T 0 x := fun x hx => by rw [← hT1, stF_o hx]; rfl
      have p5 : T1 0 5 = nI (c - 1) := by rw [← hT1, stF_eq]
      have p15 : T1 15 = rmA 20 (T 15) i 20 := by rw [← hT1]; rfl
      have p16 : T1 16 = rmA 20 (T 16) i 20 := by rw [← hT1]; rfl
      have p17 : T1 17 = rmA 20 (T 17) i 20 := by rw [← hT1]; rfl
      have pj : ∀ r, r ≠ 0 → r ≠ 15 → r ≠ 16 → r ≠ 17 → T1 r = T r := fun r r0 r15 r16 r17 => by rw [← hT1, stF_ne r0, u1_ne r17, u1_ne r16, u1_ne r15]
      obtain ⟨l2, l21, l22⟩ := rqT_rm k1 hc p15 p16 p17
      have hcut : rqT T i = L0 ∧ l2 = dropL q L2 := by
        have h2 := l21.symm.trans hL'
        obtain ⟨a, b⟩ := List.append_inj h2 (by rw [rqT_len, h0])
        injection b with b1 b2
        exact ⟨a, b2⟩
      obtain ⟨T', c', r1, r2, r3, r4, r5, r6⟩ := ih n L0 (x :: L2) T1 (c - 1) (by omega) h0 (by omega) p5 (by rw [hd, l22, hcut.1, hcut.2]) hx0
      exact ⟨T', c', r1, by omega, r3, r4, fun x hx => (r5 x hx).trans (p0 x hx), fun r a b d e => (r6 r a b d e).trans (pj r a b d e)⟩
    · rw [if_neg (ine (by omega) (by omega) (by omega)), if_neg (ile_f hj (by omega)), zI_rs (by omega) (by omega)]
      simp only [jlet]
      have ej : nI j - 1 = nI (j - 1) := zI_sub (b := 1) (by omega)
      have hd : dropL q (x :: L2) = (x.1 - 1, x.2.1, x.2.2) :: dropL q L2 := by
        rw [dropL, if_neg (by rw [j2]; exact ine (by omega) (by omega) (by omega)), if_neg (by rw [j2]; exact ile_f hj (by omega))]
      have hput := seg_put (g := gT T) (g' := gT (u1 T 15 (upd (T 15) i (nI j - 1)))) (c := c) (j := i) k1 (fun t ht _ => by
        show (upd (T 15) i (nI j - 1) t, T 16 t, T 17 t) = (T 15 t, T 16 t, T 17 t)
        rw [upd_ne ht])
      have hgi : gT (u1 T 15 (upd (T 15) i (nI j - 1))) i = (x.1 - 1, x.2.1, x.2.2) := by
        show (upd (T 15) i (nI j - 1) i, T 16 i, T 17 i) = _
        rw [upd_eq, ← k2, ← e15]
        rfl
      rw [hgi, k3, k4] at hput
      obtain ⟨T', c', r1, r2, r3, r4, r5, r6⟩ := ih n L0 (x :: L2) (u1 T 15 (upd (T 15) i (nI j - 1))) c (by omega) h0 hc h5 (by rw [hd]; exact hput) hx0
      exact ⟨T', c', r1, r2, r3, r4, fun x hx => (r5 x hx).trans rfl, fun r a b d e => (r6 r a b d e).trans (u1_ne b)⟩
/-- the reference's loop over the requests -/
theorem r_dropL {N q : Nat} (hN : 60 < N) (hq : q < 24) : ∀ (i n : Nat) (L1 L2 : List Rq) (M : RM) (c : Nat), i < n → L1.length = i → c ≤ 20 → M 1 180 = nI c → rqA (M 1) c = L1 ++ dropL q L2 → (∀ x, x ∈ L1 → ∃ j, j < 24 ∧ x.1 = nI j) → ∃ (M' : RM) (c' : Nat), D_X9_cancels_31 N n M (nI q) (nI i - 1) = D_X9_cancels_31 N 1 M' (nI q) (-1) ∧ c' ≤ c ∧ M' 1 180 = nI c' ∧ rqA (M' 1) c' = dropL q (L1 ++ L2) ∧ Near M M' ∧ (∀ x, M' 0 x = M 0 x) ∧ ∀ x, x < 180 → M' 1 x = M 1 x := by
  intro i
  induction i with
  | zero =>
    intro n L1 L2 M c hn h1 hc h5 hL hx
    obtain ⟨n, rfl⟩ : ∃ k, n = k + 1 := ⟨n - 1, by omega⟩
    have e : L1 = [] := List.length_eq_zero_iff.mp h1
    subst e
    refine ⟨M, c, ?_, Nat.le_refl c, h5, hL, near_refl M, fun _ => rfl, fun _ _ => rfl⟩
    rw [D_X9_cancels_31, if_pos (by decide), D_X9_cancels_31, if_pos (show (-1 : Int32) < 0 by decide)]
  | succ i ih =>
    intro n L1 L2 M c hn h1 hc h5 hL hx
    obtain ⟨n, rfl⟩ : ∃ k, n = k + 1 := ⟨n - 1, by omega⟩
    have hne : L1 ≠ [] := fun e => by rw [e] at h1; cases h1
    obtain ⟨L0, x, rfl⟩ : ∃ L0 x, L1 = L0 ++ [x] := ⟨L1.dropLast, L1.getLast hne, (List.dropLast_concat_getLast hne).symm⟩
    have h0 : L0.length = i := by
      rw [List.length_append] at h1
      simpa using h1
    have hL' : (List.range c).map (gA (M 1)) = L0 ++ x :: dropL q L2 := by
      rw [← List.singleton_append, ← List.append_assoc]; exact hL
    obtain ⟨k1, k2, k3, k4⟩ := seg_cut hL' h0
    obtain ⟨j, j1, j2⟩ := hx x (List.mem_append_right L0 List.mem_cons_self)
    have hx0 : ∀ y, y ∈ L0 → ∃ j, j < 24 ∧ y.1 = nI j := fun y hy => hx y (List.mem_append_left _ hy)
    have e15 : M 1 (181 + 3 * i + 0) = nI j := (congrArg (fun y : Rq => y.1) k2).trans j2
    have ei : nI (i + 1) - 1 = nI i := zI_sub (a := i + 1) (b := 1) (by omega)
    have ed : nI i + (-1 : Int32) = nI i - 1 := (Int32.sub_eq_add_neg (nI i) 1).symm
    have eapp : (L0 ++ [x]) ++ L2 = L0 ++ (x :: L2) := by rw [List.append_assoc]; rfl
    have i0 : ((181 : Int32) + ((3 : Int32) * nI i)) + 0 = nI (181 + 3 * i + 0) := z_at 181 3 i 0
    rw [ei, eapp, D_X9_cancels_31, if_neg (Int32.not_lt.mpr (zI_pos (by omega))), z_r (v2 := 0) i 0 rfl rfl (by omega) (by omega), Option.bind_some, Option.bind_some, e15, ed]
    rcases Nat.lt_trichotomy j q with hj | hj | hj
    · rw [if_neg (ine (by omega) (by omega) (by omega)), if_pos (ile_t (by omega) (by omega))]
      have hd : dropL q (x :: L2) = x :: dropL q L2 := by
        rw [dropL, if_neg (by rw [j2]; exact ine (by omega) (by omega) (by omega)), if_pos (by rw [j2]; exact ile_t (by omega) (by omega))]
      exact ih n L0 (x :: L2) M c (by omega) h0 hc h5 (by rw [hd]; exact hL') hx0
    · rw [if_pos (by rw [hj]), r_takesOut (q := i) (nr := c) hN k1 hc h5, Option.bind_some]
      have hd : dropL q (x :: L2) = dropL q L2 := by rw [dropL, if_pos (by rw [j2, hj])]
      have n1 : Near M (u1 M 1 (toA (M 1) i c (3 * (c - 1)))) := near_row (fun x hx => by
        unfold toA
        rw [if_neg (by omega), if_neg (by omega)])
      have sc : ∀ x, u1 M 1 (toA (M 1) i c (3 * (c - 1))) 0 x = M 0 x := fun x => by rw [u1_ne (by decide)]
      have row : u1 M 1 (toA (M 1) i c (3 * (c - 1))) 1 = toA (M 1) i c (3 * (c - 1)) := u1_eq
      generalize u1 M 1 (toA (M 1) i c (3 * (c - 1))) = M1 at n1 sc row
      have a180 : M1 1 180 = nI (c - 1) := by
        rw [row]
        unfold toA
        rw [if_neg (by omega), if_pos rfl]
      have aR : ∀ x, 181 ≤ x → x < 181 + 3 * (c - 1) → M1 1 x = if x < 181 + 3 * i then M 1 x else M 1 (x + 3) := fun x h1 h2 => by
        rw [row]
        unfold toA
        by_cases hx : x < 181 + 3 * i
        · rw [if_neg (by omega), if_neg (by omega), if_pos hx]
        · rw [if_pos (by omega), if_neg hx]
      have aN : ∀ x, x < 180 → M1 1 x = M 1 x := fun x hx => by
        rw [row]
        unfold toA
        rw [if_neg (by omega), if_neg (by omega)]
      obtain ⟨l2, l21, l22⟩ := rqA_rm k1 aR
      have hcut : rqA (M 1) i = L0 ∧ l2 = dropL q L2 := by
        have h2 := l21.symm.trans hL'
        obtain ⟨a, b⟩ := List.append_inj h2 (by rw [rqA_len, h0])
        injection b with b1 b2
        exact ⟨a, b2⟩
      obtain ⟨M', c', r1, r2, r3, r4, r5, r6, r7⟩ := ih n L0 (x :: L2) M1 (c - 1) (by omega) h0 (by omega) a180 (by rw [hd, l22, hcut.1, hcut.2]) hx0
      exact ⟨M', c', r1, by omega, r3, r4, near_trans n1 r5, fun x => (r6 x).trans (sc x), fun x hx => (r7 x hx).trans (aN x hx)⟩
    · rw [if_neg (ine (by omega) (by omega) (by omega)), if_neg (ile_f hj (by omega)), i0, if_pos (zI_inb (n := 181 + 3 * i + 0) (by omega) (by omega)), if_pos (zI_inb (n := 181 + 3 * i + 0) (by omega) (by omega)), zI_nat (by omega), e15]
      simp only [jlet]
      have hd : dropL q (x :: L2) = (x.1 - 1, x.2.1, x.2.2) :: dropL q L2 := by
        rw [dropL, if_neg (by rw [j2]; exact ine (by omega) (by omega) (by omega)), if_neg (by rw [j2]; exact ile_f hj (by omega))]
      have row : stA M 1 (nI (181 + 3 * i + 0)) (nI j - 1) 1 = upd (M 1) (181 + 3 * i + 0) (nI j - 1) := stA_1 (by omega)
      have n1 : Near M (stA M 1 (nI (181 + 3 * i + 0)) (nI j - 1)) := near_stA (by omega)
      have sc : ∀ x, stA M 1 (nI (181 + 3 * i + 0)) (nI j - 1) 0 x = M 0 x := fun x => by rw [stA_ne (by decide)]
      generalize stA M 1 (nI (181 + 3 * i + 0)) (nI j - 1) = M1 at n1 sc row
      have aN : ∀ x, x ≠ 181 + 3 * i → M1 1 x = M 1 x := fun x hx => by
        rw [row]
        exact upd_ne hx
      have aS : M1 1 (181 + 3 * i) = nI j - 1 := by
        rw [row]
        exact upd_eq
      have hput := seg_put (g := gA (M 1)) (g' := gA (M1 1)) (c := c) (j := i) k1 (fun t ht _ => by
        show (M1 1 (181 + 3 * t), M1 1 (181 + 3 * t + 1), M1 1 (181 + 3 * t + 2)) = (M 1 (181 + 3 * t), M 1 (181 + 3 * t + 1), M 1 (181 + 3 * t + 2))
        rw [aN _ (by omega), aN _ (by omega), aN _ (by omega)])
      have hgi : gA (M1 1) i = (x.1 - 1, x.2.1, x.2.2) := by
        show (M1 1 (181 + 3 * i), M1 1 (181 + 3 * i + 1), M1 1 (181 + 3 * i + 2)) = _
        rw [aS, aN _ (by omega), aN _ (by omega), ← k2, ← e15]
        rfl
      rw [hgi, k3, k4] at hput
      obtain ⟨M', c', r1, r2, r3, r4, r5, r6, r7⟩ := ih n L0 (x :: L2) M1 c (by omega) h0 hc ((aN 180 (by omega)).trans h5) (by rw [hd]; exact hput) hx0
      exact ⟨M', c', r1, r2, r3, r4, near_trans n1 r5, fun x => (r6 x).trans (sc x), fun x hx => (r7 x hx).trans (aN x (by omega))⟩
/-- the requests that are left, on both sides -/
theorem RReq_drop {T T' : RM} {A A' : Nat → Int32} {nf nr q c cA : Nat} (hf : nf ≤ 24) (hq : q < nf) (hreq : RReq T A nf nr) (hT : rqT T' c = dropL q (rqT T nr)) (hA : rqA A' cA = dropL q (rqA A nr)) : c = cA ∧ RReq T' A' (nf - 1) c := by
  have hTm : ∀ x, x ∈ rqT T nr → ∃ j, j < nf ∧ x.1 = nI j := fun x hx => by
    obtain ⟨t, t1, t2⟩ := rqT_mem hx
    rw [t2]
    exact (hreq.2 t t1).1
  have hAm : ∀ x, x ∈ rqA A nr → ∃ j, j < nf ∧ x.1 = nI j := fun x hx => by
    obtain ⟨t, t1, t2⟩ := rqA_mem hx
    rw [t2]
    exact (hreq.2 t t1).2.1
  have hlenK : ∀ k, k < nf → (forK k (rqT T nr)).length = (forK k (rqA A nr)).length := fun k hk => by
    rw [hreq.1 k hk, byP_len (fun x hx => by
      obtain ⟨t, t1, t2⟩ := rqA_mem (List.mem_filter.mp hx).1
      obtain ⟨-, -, -, z, z1, z2⟩ := hreq.2 t t1
      exact ⟨z, z2, by rw [t2]; exact z1⟩)]
  have hfor : ∀ k, k < nf - 1 → forK k (dropL q (rqT T nr)) = byP (forK k (dropL q (rqA A nr))) := fun k hk => by
    rcases Nat.lt_or_ge k q with h | h
    · rw [dropL_lt h hq hf hTm, dropL_lt h hq hf hAm]
      exact hreq.1 k (by omega)
    · rw [dropL_ge h (by omega) hf hTm, dropL_ge h (by omega) hf hAm, byP_dec, hreq.1 (k + 1) (by omega)]
  -- how many are left
  have hcount : ∀ (l : List Rq), (∀ x, x ∈ l → ∃ j, j < nf ∧ x.1 = nI j) → (dropL q l).length + (forK q l).length = l.length := by
    intro l
    induction l with
    | nil => intro _; rfl
    | cons x l ih =>
      intro h
      obtain ⟨j, j1, j2⟩ := h x List.mem_cons_self
      have hi := ih (fun y hy => h y (List.mem_cons_of_mem x hy))
      rw [dropL]
      by_cases hj : x.1 = nI q
      · rw [if_pos hj, forK_in hj, List.length_cons, List.length_cons]; omega
      · rw [if_neg hj, forK_out hj]
        by_cases h2 : x.1 ≤ nI q
        · rw [if_pos h2, List.length_cons, List.length_cons]; omega
        · rw [if_neg h2, List.length_cons, List.length_cons]; omega
  have h1 := hcount _ hTm
  have h2 := hcount _ hAm
  rw [← hT, rqT_len, rqT_len] at h1
  rw [← hA, rqA_len, rqA_len] at h2
  have h3 := hlenK q hq
  have hc : c = cA := by omega
  refine ⟨hc, fun k hk => ?_, fun t ht => ?_⟩
  · rw [hT, hc, hA]
    exact hfor k hk
  · have m1 : (T' 15 t, T' 16 t, T' 17 t) ∈ dropL q (rqT T nr) := by
      rw [← hT]
      exact List.mem_map.mpr ⟨t, List.mem_range.mpr ht, rfl⟩
    have m2 : (A' (181 + 3 * t), A' (181 + 3 * t + 1), A' (181 + 3 * t + 2)) ∈ dropL q (rqA A nr) := by
      rw [← hA]
      exact List.mem_map.mpr ⟨t, List.mem_range.mpr (by omega), rfl⟩
    obtain ⟨a1, -⟩ := dropL_mem hf hq hTm _ m1
    obtain ⟨b1, x, x1, x2⟩ := dropL_mem hf hq hAm _ m2
    obtain ⟨y, y1, y2⟩ := rqA_mem x1
    obtain ⟨-, -, g3, g4⟩ := hreq.2 y y1
    rw [y2] at x2
    injection x2 with x3 x4
    exact ⟨a1, b1, by rw [x3]; exact g3, by rw [x4]; exact g4⟩
