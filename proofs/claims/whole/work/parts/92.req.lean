/-! request -/
def insM (z : Nat) (f : Nat → Int32) (x : Nat) : Nat → Int32 := fun j => if x < j ∧ j < z then f (j - 1) else f j
def insA (z : Nat) (f : Nat → Int32) (i : Nat) (v : Int32) : Nat → Int32 := upd (insM z f i) i v
theorem insM_step {z x : Nat} {f : Nat → Int32} (hx : x + 1 < z) : upd (insM z f (x + 1)) (x + 1) (insM z f (x + 1) x) = insM z f x := by
  funext j
  have e : insM z f (x + 1) x = f x := if_neg (by omega)
  by_cases hj : j = x + 1
  · rw [hj, upd_eq, e]
    unfold insM
    rw [if_pos (by omega)]
    rfl
  · rw [upd_ne hj]
    unfold insM
    by_cases h : x + 1 < j ∧ j < z
    · rw [if_pos h, if_pos (by omega)]
    · rw [if_neg h, if_neg (by omega)]
theorem c_insL {N z i : Nat} {f : Nat → Int32} {v : Int32} (hz : z < 2 ^ 30) : ∀ (dd n x : Nat), x = i + dd → dd < n → x < z → D_X5_insertAt_8 N z n (insM z f x) (nI i) v (nI x) = some (insA z f i v) := by
  intro dd
  induction dd with
  | zero =>
    intro n x hx hn hxz
    obtain ⟨n, rfl⟩ : ∃ k, n = k + 1 := ⟨n - 1, by omega⟩
    have hx : x = i := by omega
    rw [hx, D_X5_insertAt_8, if_pos (ile_t (Nat.le_refl i) (by omega)), c_set (by omega) (by omega), Option.bind_some]
    rfl
  | succ dd ih =>
    intro n x hx hn hxz
    obtain ⟨n, rfl⟩ : ∃ k, n = k + 1 := ⟨n - 1, by omega⟩
    obtain ⟨y, rfl⟩ : ∃ y, x = y + 1 := ⟨x - 1, by omega⟩
    have e1 : nI (y + 1) - (1 : Int32) = nI y := zI_sub (a := y + 1) (b := 1) (by omega)
    have e2 : nI (y + 1) + (-1 : Int32) = nI y := zI_pred (Nat.le_add_left 1 y)
    rw [D_X5_insertAt_8, if_neg (ile_f (by omega) (by omega)), e1, c_get (by omega) (by omega), Option.bind_some, if_pos (by omega), c_set (by omega) hxz, Option.bind_some, e2, insM_step hxz]
    exact ih n y (by omega) (by omega) (by omega)
theorem c_insAt {N z i : Nat} {f : Nat → Int32} {v : Int32} (hN : z < N) (hz : z < 2 ^ 30) (hi : i < z) : F_X5_insertAt N z f (nI i) v = some (insA z f i v) := by
  unfold F_X5_insertAt
  have e0 : insM z f (z - 1) = f := by
    funext j
    exact if_neg (by omega)
  have e1 : Int32.ofNat z - (1 : Int32) = nI (z - 1) := zI_sub (a := z) (b := 1) (by omega)
  have h := c_insL (N := N) (z := z) (i := i) (f := f) (v := v) hz (z - 1 - i) N (z - 1) (by omega) (by omega) (by omega)
  rw [e0] at h
  rw [e1]
  exact h
theorem insA_lt {z i j : Nat} {f : Nat → Int32} {v : Int32} (h : j < i) : insA z f i v j = f j := by
  unfold insA
  rw [upd_ne (by omega)]
  exact if_neg (by omega)
theorem insA_eq {z i : Nat} {f : Nat → Int32} {v : Int32} : insA z f i v i = v := upd_eq
theorem insA_gt {z i j : Nat} {f : Nat → Int32} {v : Int32} (h : i < j) (hj : j < z) : insA z f i v j = f (j - 1) := by
  unfold insA
  rw [upd_ne (by omega)]
  exact if_pos ⟨h, hj⟩
theorem app_split {α : Type} {P Q : α → Prop} (hPQ : ∀ x, P x → Q x → False) {a b c d : List α} (h : a ++ b = c ++ d) (ha : ∀ x, x ∈ a → P x) (hb : ∀ x l, b = x :: l → Q x) (hc : ∀ x, x ∈ c → P x) (hd : ∀ x, x ∈ d → Q x) : a = c ∧ b = d := by
  rcases List.append_eq_append_iff.mp h with ⟨e, h1, h2⟩ | ⟨e, h1, h2⟩
  · cases e with
    | nil => rw [List.append_nil] at h1; exact ⟨h1.symm, h2⟩
    | cons x l => exact (hPQ x (hc x (by rw [h1]; exact List.mem_append_right a List.mem_cons_self)) (hb x _ h2)).elim
  · cases e with
    | nil => rw [List.append_nil] at h1; exact ⟨h1, h2.symm⟩
    | cons x l => exact (hPQ x (ha x (by rw [h1]; exact List.mem_append_right c List.mem_cons_self)) (hd x (by rw [h2]; exact List.mem_cons_self))).elim
/-- those of the priorities pr .. pr + d - 1, the greatest first -/
def hiS (l : List Rq) (pr : Nat) : Nat → List Rq
  | 0 => []
  | d + 1 => prF (pr + d) l ++ hiS l pr d
theorem byS_hi (l : List Rq) (pr d : Nat) : byS l (pr + d) = hiS l pr d ++ byS l pr := by
  induction d with
  | zero => rfl
  | succ d ih =>
    show prF (pr + d) l ++ byS l (pr + d) = _
    rw [ih, ← List.append_assoc]
    rfl
theorem hiS_mem {l : List Rq} {pr : Nat} : ∀ {d : Nat} {x : Rq}, x ∈ hiS l pr d → ∃ z, pr ≤ z ∧ z < pr + d ∧ x.2.2 = nI z := by
  intro d
  induction d with
  | zero => intro x hx; cases hx
  | succ d ih =>
    intro x hx
    rcases List.mem_append.mp hx with h | h
    · obtain ⟨h1, h2⟩ := List.mem_filter.mp h
      exact ⟨pr + d, by omega, by omega, by simpa using h2⟩
    · obtain ⟨z, a, b, c⟩ := ih h
      exact ⟨z, a, by omega, c⟩
theorem hiS_new {l : List Rq} {pr : Nat} {x : Rq} (hx : x.2.2 = nI pr) : ∀ {d : Nat}, pr + d < 2 ^ 31 → hiS (l ++ [x]) pr (d + 1) = hiS l pr (d + 1) ++ [x] := by
  intro d
  induction d with
  | zero =>
    intro _
    show prF pr (l ++ [x]) ++ [] = (prF pr l ++ []) ++ [x]
    rw [List.append_nil, List.append_nil, prF_app, prF_in hx]
    rfl
  | succ d ih =>
    intro hd
    show prF (pr + (d + 1)) (l ++ [x]) ++ hiS (l ++ [x]) pr (d + 1) = (prF (pr + (d + 1)) l ++ hiS l pr (d + 1)) ++ [x]
    rw [ih (by omega), prF_app, prF_out (by rw [hx]; exact ine (by omega) (by omega) (by omega)), List.append_assoc]
    show prF (pr + (d + 1)) l ++ ([] ++ _) = _
    rw [List.nil_append, ← List.append_assoc]
def geF (pr : Nat) (l : List Rq) : List Rq := l.filter (fun x => decide (¬ x.2.2 < nI pr))
theorem ge_len {pr : Nat} (hpr : pr < 2 ^ 31) : ∀ {l : List Rq}, (∀ x, x ∈ l → ∃ p, p ≤ 9 ∧ x.2.2 = nI p) → (byS l pr).length + (geF pr l).length = l.length := by
  intro l
  induction l with
  | nil =>
    intro _
    have e : ∀ s, (byS [] s).length = 0 := by
      intro s
      induction s with
      | zero => rfl
      | succ s ih =>
        show (prF s [] ++ byS [] s).length = 0
        rw [List.length_append, ih]
        rfl
    rw [e]; rfl
  | cons x l ih =>
    intro h
    obtain ⟨p, hp, hx⟩ := h x List.mem_cons_self
    have hi := ih (fun y hy => h y (List.mem_cons_of_mem x hy))
    by_cases hpp : p < pr
    · obtain ⟨B1, B2, h1, h2, -⟩ := byS_cut (a := []) (b := l) hx (by omega) hpp hpr
      have h1 : byS (x :: l) pr = B1 ++ x :: B2 := h1
      have h2 : byS l pr = B1 ++ B2 := h2
      have e : geF pr (x :: l) = geF pr l := List.filter_cons_of_neg (by
        simp only [decide_eq_true_iff, Classical.not_not]
        rw [hx]; exact (zI_lt (by omega) hpr).mpr hpp)
      rw [h2, List.length_append] at hi
      rw [h1, e, List.length_append, List.length_cons, List.length_cons]
      omega
    · have h1 : byS (x :: l) pr = byS l pr := byS_skip (a := []) (fun q hq => by rw [hx]; exact ine (by omega) (by omega) (by omega))
      have e : geF pr (x :: l) = x :: geF pr l := List.filter_cons_of_pos (by
        simp only [decide_eq_true_iff]
        rw [hx]; exact fun q => hpp ((zI_lt (by omega) hpr).mp q))
      rw [h1, e, List.length_cons, List.length_cons]
      omega
theorem c_add53 {N i nr : Nat} {T : RM} {a b c d : Int32} (hN : 24 < N) (hi : i ≤ nr) (hnr : nr < 20) (d7 : T 0 5 = nI nr) : D_X4_add_53 N T a b c d (nI i) = some (d, stF (u1 (u1 (u1 T 15 (insA 20 (T 15) i a)) 16 (insA 20 (T 16) i b)) 17 (insA 20 (T 17) i c)) 5 (nI (nr + 1))) := by
  unfold D_X4_add_53
  rw [c_insAt (by omega) (by omega) (by omega), Option.bind_some]
  simp only [jlet]
  rw [show u1 T 15 (insA 20 (T 15) i a) 16 = T 16 from rfl, c_insAt (by omega) (by omega) (by omega), Option.bind_some, show u1 (u1 T 15 (insA 20 (T 15) i a)) 16 (insA 20 (T 16) i b) 17 = T 17 from rfl, c_insAt (by omega) (by omega) (by omega), Option.bind_some]
  show some (d, stF _ 5 (T 0 5 + 1)) = _
  rw [d7, zI_succ]
theorem c_addL {N nr k pr : Nat} {T : RM} {v2 : Int32} (hnr : nr ≤ 20) (hpr : pr ≤ 9) (d7 : T 0 5 = nI nr) (hT : ∀ i, i < nr → T 15 i = nI k → ∃ z, z ≤ 9 ∧ T 17 i = nI z) : ∀ (dd n i : Nat), i + dd = nr → dd < n → (∀ x, x ∈ forK k (rqT T i) → ∃ z, pr ≤ z ∧ z < 10 ∧ x.2.2 = nI z) →
    ∃ j, j ≤ nr ∧ D_X4_add_6 N n T (nI k) v2 (nI pr) (nI (forK k (rqT T i)).length) (nI i) = D_X4_add_53 N T (nI k) v2 (nI pr) (nI (forK k (rqT T j)).length) (nI j) ∧ (∀ x, x ∈ forK k (rqT T j) → ∃ z, pr ≤ z ∧ z < 10 ∧ x.2.2 = nI z) ∧ (j = nr ∨ (j < nr ∧ T 15 j = nI k ∧ ∃ z, z < pr ∧ T 17 j = nI z)) := by
  intro dd
  induction dd with
  | zero =>
    intro n i hi hn hx
    obtain ⟨n, rfl⟩ : ∃ k, n = k + 1 := ⟨n - 1, by omega⟩
    obtain rfl : i = nr := by omega
    exact ⟨i, Nat.le_refl i, by rw [D_X4_add_6, d7, if_pos (ile_t (Nat.le_refl i) (by omega))], hx, Or.inl rfl⟩
  | succ dd ih =>
    intro n i hi hn hx
    obtain ⟨n, rfl⟩ : ∃ k, n = k + 1 := ⟨n - 1, by omega⟩
    have hs := forK_len_step (k := k) (l := rqT T i) (x := (T 15 i, T 16 i, T 17 i))
    rw [← rqT_succ] at hs
    have hs : (forK k (rqT T (i + 1))).length = (forK k (rqT T i)).length + (if T 15 i = nI k then 1 else 0) := hs
    rw [D_X4_add_6, d7, if_neg (ile_f (by omega) (by omega)), zI_rg (by omega) (by omega), zI_rg (by omega) (by omega), zI_succ, zI_succ]
    by_cases h15 : T 15 i = nI k
    · obtain ⟨z, z1, z2⟩ := hT i (by omega) h15
      rw [if_pos h15] at hs ⊢
      by_cases hz : pr ≤ z
      · rw [z2, if_pos (ile_t hz (by omega)), ← hs]
        refine ih n (i + 1) (by omega) (by omega) (fun x hx' => ?_)
        rw [rqT_succ, forK_app] at hx'
        rcases List.mem_append.mp hx' with h | h
        · exact hx x h
        · rw [forK_in (show (T 15 i, T 16 i, T 17 i).1 = nI k from h15)] at h
          rcases List.mem_cons.mp h with h | h
          · exact ⟨z, hz, by omega, by rw [h]; exact z2⟩
          · cases h
      · rw [z2, if_neg (ile_f (by omega) (by omega))]
        exact ⟨i, by omega, rfl, hx, Or.inr ⟨by omega, h15, z, by omega, z2⟩⟩
    · rw [if_neg h15] at hs
      have hs : (forK k (rqT T (i + 1))).length = (forK k (rqT T i)).length := hs
      rw [if_neg h15, ← hs]
      refine ih n (i + 1) (by omega) (by omega) (fun x hx' => ?_)
      rw [rqT_succ, forK_app] at hx'
      rcases List.mem_append.mp hx' with h | h
      · exact hx x h
      · rw [forK_out (show (T 15 i, T 16 i, T 17 i).1 ≠ nI k from h15)] at h
        cases h
/-- how many of greater or the same priority wait -/
def cg (A : Nat → Int32) (k pr q : Nat) : Nat := (geF pr (forK k (rqA A q))).length
theorem cg_step (A : Nat → Int32) (k pr q : Nat) : cg A k pr (q + 1) = cg A k pr q + (if A (181 + 3 * q) = nI k then (if A (181 + 3 * q + 2) < nI pr then 0 else 1) else 0) := by
  unfold cg geF
  rw [rqA_succ, forK_app, List.filter_append, List.length_append]
  congr 1
  by_cases h1 : A (181 + 3 * q) = nI k
  · rw [if_pos h1, forK_in (show (A (181 + 3 * q), A (181 + 3 * q + 1), A (181 + 3 * q + 2)).1 = nI k from h1)]
    by_cases h2 : A (181 + 3 * q + 2) < nI pr
    · rw [if_pos h2, List.filter_cons_of_neg (by simpa using h2)]; rfl
    · rw [if_neg h2, List.filter_cons_of_pos (by simpa using h2)]; rfl
  · rw [if_neg h1, forK_out (show (A (181 + 3 * q), A (181 + 3 * q + 1), A (181 + 3 * q + 2)).1 ≠ nI k from h1)]; rfl
theorem stF_stF (M : RM) (k : Nat) (v w : Int32) : stF (stF M k v) k w = stF M k w := by
  unfold stF
  rw [u1_u1, u1_eq, u1_u1]
theorem r_reqL {N nr k pr : Nat} {M : RM} {v2 : Int32} (hnr : nr < 20) (d8 : M 1 180 = nI nr) : ∀ (dd n i : Nat), i + dd = nr → dd < n → D_X9_requests_75 N n (stF M 6 (nI (cg (M 1) k pr i))) (nI k) v2 (nI pr) (nI nr) (nI i) = some (0, stA (stA (stA (stA (stF M 6 (nI (cg (M 1) k pr nr))) 1 (nI (181 + 3 * nr + 0)) (nI k)) 1 (nI (181 + 3 * nr + 1)) v2) 1 (nI (181 + 3 * nr + 2)) (nI pr)) 1 (nI 180) (nI (nr + 1))) := by
  intro dd
  induction dd with
  | zero =>
    intro n i hi hn
    obtain ⟨n, rfl⟩ : ∃ k, n = k + 1 := ⟨n - 1, by omega⟩
    obtain rfl : i = nr := by omega
    have i0 : ((181 : Int32) + ((3 : Int32) * nI i)) + 0 = nI (181 + 3 * i + 0) := z_at 181 3 i 0
    have i1 : ((181 : Int32) + ((3 : Int32) * nI i)) + 1 = nI (181 + 3 * i + 1) := z_at 181 3 i 1
    have i2 : ((181 : Int32) + ((3 : Int32) * nI i)) + 2 = nI (181 + 3 * i + 2) := z_at 181 3 i 2
    rw [D_X9_requests_75, if_pos (ile_t (Nat.le_refl i) (by omega)), i0, i1, i2, if_pos (zI_inb (n := 181 + 3 * i + 0) (by omega) (by omega))]
    simp only [jlet]
    rw [if_pos (zI_inb (n := 181 + 3 * i + 1) (by omega) (by omega)), if_pos (zI_inb (n := 181 + 3 * i + 2) (by omega) (by omega)), if_pos (by decide), if_pos (by decide)]
    have e : stA (stA (stA (stF M 6 (nI (cg (M 1) k pr i))) 1 (nI (181 + 3 * i + 0)) (nI k)) 1 (nI (181 + 3 * i + 1)) v2) 1 (nI (181 + 3 * i + 2)) (nI pr) 1 (180 : Int32).toNatClampNeg = nI i := by
      rw [stA_1 (by omega), stA_1 (by omega), stA_1 (by omega), stF_1]
      show upd (upd (upd (M 1) _ _) _ _) _ _ 180 = _
      rw [upd_ne (by omega), upd_ne (by omega), upd_ne (by omega)]
      exact d8
    rw [e, zI_succ]
    rfl
  | succ dd ih =>
    intro n i hi hn
    obtain ⟨n, rfl⟩ : ∃ k, n = k + 1 := ⟨n - 1, by omega⟩
    have hs := cg_step (M 1) k pr i
    have h := ih n (i + 1) (by omega) (by omega)
    rw [D_X9_requests_75, if_neg (ile_f (by omega) (by omega)), z_r (v2 := 0) i 0 rfl rfl (by omega) (by omega), Option.bind_some, z_r (v2 := 2) i 2 rfl rfl (by omega) (by omega), Option.bind_some, stF_1, Nat.add_zero, zI_succ]
    simp only [jlet]
    rw [stF_stF, stF_stF, stF_eq, Int32.add_zero, zI_succ]
    by_cases h1 : M 1 (181 + 3 * i) = nI k
    · rw [if_pos h1] at hs ⊢
      by_cases h2 : M 1 (181 + 3 * i + 2) < nI pr
      · rw [if_pos h2] at hs
        have hs : cg (M 1) k pr (i + 1) = cg (M 1) k pr i := hs
        rw [if_pos h2, ← hs]
        exact h
      · rw [if_neg h2] at hs ⊢
        rw [← hs]
        exact h
    · rw [if_neg h1] at hs
      have hs : cg (M 1) k pr (i + 1) = cg (M 1) k pr i := hs
      rw [if_neg h1, ← hs]
      exact h
set_option maxRecDepth 100000 in
theorem jo_request : jO_request RSea := by
  intro T M hr v1 v2 v3
  obtain ⟨np, nf, nu, nr, hS⟩ := rs_M.mp hr
  have hS' := hS
  obtain ⟨⟨c1, c2, c3, c4, d1, d2, d3, d4, d5, d6, d7, d8⟩, htop, hpro, hper, hapt, hsub, hreq, hcrw⟩ := hS'
  rcases zI_idx (n := nf) (by omega) v1 with hz | ⟨ho, k, hk, rfl⟩
  · refine ⟨(-1, T), (1, M), ?_, ?_, op_no (by decide) (Or.inl ⟨rfl, rfl⟩)⟩
    · unfold F_X6_makeRequest; rw [z_has2, Option.bind_some, d3, if_pos hz]
    · unfold F_X9_requests; rw [z_isPerformance, Option.bind_some, d4, if_pos hz]
  have hne : ¬ jIn (nI k) 0 (nI nf - 1) = 0 := by rw [ho]; decide
  by_cases hv2 : jIn v2 1 99 = 0
  · refine ⟨(-2, T), (2, M), ?_, ?_, op_no (by decide) (Or.inr (Or.inl ⟨rfl, rfl⟩))⟩
    · unfold F_X6_makeRequest; rw [z_has2, Option.bind_some, d3, if_neg hne, if_pos hv2]
    · unfold F_X9_requests; rw [z_isPerformance, Option.bind_some, d4, if_neg hne, z_in, Option.bind_some, if_pos hv2]
  by_cases hv3 : jIn v3 0 9 = 0
  · refine ⟨(-2, T), (2, M), ?_, ?_, op_no (by decide) (Or.inr (Or.inl ⟨rfl, rfl⟩))⟩
    · unfold F_X6_makeRequest; rw [z_has2, Option.bind_some, d3, if_neg hne, if_neg hv2, if_pos hv3]
    · unfold F_X9_requests; rw [z_isPerformance, Option.bind_some, d4, if_neg hne, z_in, Option.bind_some, if_neg hv2, z_in, Option.bind_some, if_pos hv3]
  obtain ⟨z2, rfl, y1, y2⟩ := zI_btw (a := 1) (b := 99) (by decide) (by decide) (Decidable.not_not.mp (fun q => hv2 (jIn_0.mpr q)))
  obtain ⟨pr, rfl, -, hpr⟩ := zI_btw (a := 0) (b := 9) (by decide) (by decide) (Decidable.not_not.mp (fun q => hv3 (jIn_0.mpr q)))
  have e180 : M 1 (180 : Int32).toNatClampNeg = nI nr := d8
  by_cases h20 : nr = 20
  · subst h20
    refine ⟨(jRef (nI 8) (nI 20), T), (4, stF (stF M 4 (nI 8)) 5 (nI 20)), ?_, ?_, op_ref (by decide) (near_refl M) (by omega) (by omega) (by omega)⟩
    · unfold F_X6_makeRequest; rw [z_has2, Option.bind_some, d3, if_neg hne, if_neg hv2, if_neg hv3, d7, if_neg (by decide)]
      rfl
    · unfold F_X9_requests; rw [z_isPerformance, Option.bind_some, d4, if_neg hne, z_in, Option.bind_some, if_neg hv2, z_in, Option.bind_some, if_neg hv3, if_pos (by decide), e180, if_pos (by decide)]
      unfold D_X9_requests_55
      rw [z_ref1, Option.bind_some, if_neg (show ¬ (1 : Int32) = 0 by decide)]
      rfl
  have hlt : nr < 20 := by omega
  have hR := hreq.1 k hk
  have hpri : ∀ x, x ∈ forK k (rqA (M 1) nr) → ∃ p, p ≤ 9 ∧ x.2.2 = nI p := by
    intro x hx
    obtain ⟨q, q1, q2⟩ := rqA_mem (List.mem_filter.mp hx).1
    obtain ⟨-, -, -, z, z1, z2⟩ := hreq.2 q q1
    exact ⟨z, z2, by rw [q2]; exact z1⟩
  have hT : ∀ i, i < nr → T 15 i = nI k → ∃ z, z ≤ 9 ∧ T 17 i = nI z := by
    intro i hi h15
    have hm : (T 15 i, T 16 i, T 17 i) ∈ forK k (rqT T nr) := List.mem_filter.mpr ⟨List.mem_map.mpr ⟨i, List.mem_range.mpr hi, rfl⟩, by simpa using h15⟩
    rw [hR, byP_S] at hm
    obtain ⟨p, p1, p2, -⟩ := byS_mem hm
    exact ⟨p, by omega, p2⟩
  obtain ⟨i, i1, i2, i3, i4⟩ := c_addL (N := 3000) (v2 := nI z2) c4 (show pr ≤ 9 from hpr) d7 hT nr 3000 0 (by omega) (by omega) (fun x hx => by cases hx)
  have hcl : F_X6_makeRequest 3000 T (nI k) (nI z2) (nI pr) = some (nI (forK k (rqT T i)).length, mgX4 T (stF (u1 (u1 (u1 T 15 (insA 20 (T 15) i (nI k))) 16 (insA 20 (T 16) i (nI z2))) 17 (insA 20 (T 17) i (nI pr))) 5 (nI (nr + 1)))) := by
    have ha : F_X4_add 3000 T (nI k) (nI z2) (nI pr) = some (nI (forK k (rqT T i)).length, stF (u1 (u1 (u1 T 15 (insA 20 (T 15) i (nI k))) 16 (insA 20 (T 16) i (nI z2))) 17 (insA 20 (T 17) i (nI pr))) 5 (nI (nr + 1))) := by
      unfold F_X4_add
      exact i2.trans (c_add53 (by omega) i1 hlt d7)
    unfold F_X6_makeRequest
    rw [z_has2, Option.bind_some, d3, if_neg hne, if_neg hv2, if_neg hv3, d7, if_pos (show nI nr < 20 from (zI_lt (b := 20) (by omega) (by omega)).mpr hlt), ha, Option.bind_some]
    simp only [jlet]
  have hrf : F_X9_requests 3000 M (nI k) (nI z2) (nI pr) = some (0, stA (stA (stA (stA (stF M 6 (nI (cg (M 1) k pr nr))) 1 (nI (181 + 3 * nr + 0)) (nI k)) 1 (nI (181 + 3 * nr + 1)) (nI z2)) 1 (nI (181 + 3 * nr + 2)) (nI pr)) 1 (nI 180) (nI (nr + 1))) := by
    unfold F_X9_requests
    rw [z_isPerformance, Option.bind_some, d4, if_neg hne, z_in, Option.bind_some, if_neg hv2, z_in, Option.bind_some, if_neg hv3, if_pos (by decide), e180, if_neg (show ¬ nI nr = 20 from ine (b := 20) h20 (by omega) (by omega))]
    unfold D_X9_requests_55
    rw [z_ref0, Option.bind_some, if_pos rfl]
    simp only [jlet]
    exact r_reqL hlt d8 nr 3000 0 (by omega) (by omega)
  have row : stA (stA (stA (stA (stF M 6 (nI (cg (M 1) k pr nr))) 1 (nI (181 + 3 * nr + 0)) (nI k)) 1 (nI (181 + 3 * nr + 1)) (nI z2)) 1 (nI (181 + 3 * nr + 2)) (nI pr)) 1 (nI 180) (nI (nr + 1)) 1 = upd (upd (upd (upd (M 1) (181 + 3 * nr + 0) (nI k)) (181 + 3 * nr + 1) (nI z2)) (181 + 3 * nr + 2) (nI pr)) 180 (nI (nr + 1)) := by
    rw [stA_1 (by omega), stA_1 (by omega), stA_1 (by omega), stA_1 (by omega), stF_1]
  have hnear : Near M (stA (stA (stA (stA (stF M 6 (nI (cg (M 1) k pr nr))) 1 (nI (181 + 3 * nr + 0)) (nI k)) 1 (nI (181 + 3 * nr + 1)) (nI z2)) 1 (nI (181 + 3 * nr + 2)) (nI pr)) 1 (nI 180) (nI (nr + 1))) :=
    near_trans (near_stF (Or.inl rfl)) (near_trans (near_stA (by omega)) (near_trans (near_stA (by omega)) (near_trans (near_stA (by omega)) (near_stA (by omega)))))
  have h06 : stA (stA (stA (stA (stF M 6 (nI (cg (M 1) k pr nr))) 1 (nI (181 + 3 * nr + 0)) (nI k)) 1 (nI (181 + 3 * nr + 1)) (nI z2)) 1 (nI (181 + 3 * nr + 2)) (nI pr)) 1 (nI 180) (nI (nr + 1)) 0 6 = nI (cg (M 1) k pr nr) := by
    rw [stA_ne (by decide), stA_ne (by decide), stA_ne (by decide), stA_ne (by decide), stF_eq]
  generalize stA (stA (stA (stA (stF M 6 (nI (cg (M 1) k pr nr))) 1 (nI (181 + 3 * nr + 0)) (nI k)) 1 (nI (181 + 3 * nr + 1)) (nI z2)) 1 (nI (181 + 3 * nr + 2)) (nI pr)) 1 (nI 180) (nI (nr + 1)) = M1 at hrf row hnear h06
  have aN : ∀ c, c ≠ 180 → (c < 181 + 3 * nr ∨ 181 + 3 * nr + 3 ≤ c) → M1 1 c = M 1 c := fun c h1 h2 => by
    rw [row, upd_ne h1, upd_ne (by omega), upd_ne (by omega), upd_ne (by omega)]
  have a0 : M1 1 (181 + 3 * nr) = nI k := by
    rw [row, upd_ne (by omega), upd_ne (by omega), upd_ne (by omega)]
    exact upd_eq
  have a1 : M1 1 (181 + 3 * nr + 1) = nI z2 := by rw [row, upd_ne (by omega), upd_ne (by omega), upd_eq]
  have a2 : M1 1 (181 + 3 * nr + 2) = nI pr := by rw [row, upd_ne (by omega), upd_eq]
  generalize hT1 : mgX4 T (stF (u1 (u1 (u1 T 15 (insA 20 (T 15) i (nI k))) 16 (insA 20 (T 16) i (nI z2))) 17 (insA 20 (T 17) i (nI pr))) 5 (nI (nr + 1))) = T1 at hcl
  have p0 : ∀ x, x ≠ 5 → T1 0 x = T 0 x := fun x hx => by
    rw [← hT1]
    show cond (Nat.beq x 5) _ (T 0 x) = T 0 x
    have hb : Nat.beq x 5 = false := by
      cases hb : Nat.beq x 5 with
      | false => rfl
      | true => exact absurd (Nat.eq_of_beq_eq_true hb) hx
    rw [hb]
    rfl
  have p5 : T1 0 5 = nI (nr + 1) := by rw [← hT1]; rfl
  have p15 : T1 15 = insA 20 (T 15) i (nI k) := by rw [← hT1]; rfl
  have p16 : T1 16 = insA 20 (T 16) i (nI z2) := by rw [← hT1]; rfl
  have p17 : T1 17 = insA 20 (T 17) i (nI pr) := by rw [← hT1]; rfl
  have pr' : T1 1 = T 1 ∧ T1 2 = T 2 ∧ T1 3 = T 3 ∧ T1 4 = T 4 ∧ T1 5 = T 5 ∧ T1 6 = T 6 ∧ T1 7 = T 7 ∧ T1 8 = T 8 ∧ T1 9 = T 9 ∧ T1 10 = T 10 ∧ T1 11 = T 11 ∧ T1 12 = T 12 ∧ T1 13 = T 13 ∧ T1 14 = T 14 := by
    rw [← hT1]; exact ⟨rfl, rfl, rfl, rfl, rfl, rfl, rfl, rfl, rfl, rfl, rfl, rfl, rfl, rfl⟩
  obtain ⟨r1, r2, r3, r4, r5, r6, r7, r8, r9, r10, r11, r12, r13, r14⟩ := pr'
  -- the lists
  have hlA : rqA (M1 1) (nr + 1) = rqA (M 1) nr ++ [(nI k, nI z2, nI pr)] := by
    rw [rqA_succ, a0, a1, a2]
    congr 1
    unfold rqA
    refine List.map_congr_left (fun q hq => ?_)
    have := List.mem_range.mp hq
    rw [aN _ (by omega) (by omega), aN _ (by omega) (by omega), aN _ (by omega) (by omega)]
  have hlT : ∃ l2, rqT T nr = rqT T i ++ l2 ∧ rqT T1 (nr + 1) = rqT T i ++ (nI k, nI z2, nI pr) :: l2 ∧ (l2 = [] ∨ ∃ l3, l2 = (T 15 i, T 16 i, T 17 i) :: l3 ∧ i < nr) := by
    refine ⟨(List.range (nr - i)).map (fun j => (T 15 (i + j), T 16 (i + j), T 17 (i + j))), ?_, ?_, ?_⟩
    · have h := map_all (fun q => (T 15 q, T 16 q, T 17 q)) i (nr - i)
      rw [show i + (nr - i) = nr by omega] at h
      exact h
    · have h := map_ins (g := fun q => (T 15 q, T 16 q, T 17 q)) (g' := fun q => (T1 15 q, T1 16 q, T1 17 q)) (x := (nI k, nI z2, nI pr)) i (nr - i) (fun j hj => by
        show (T1 15 j, T1 16 j, T1 17 j) = (T 15 j, T 16 j, T 17 j)
        rw [p15, p16, p17, insA_lt hj, insA_lt hj, insA_lt hj]) (by
        show (T1 15 i, T1 16 i, T1 17 i) = _
        rw [p15, p16, p17, insA_eq, insA_eq, insA_eq]) (fun j h1 h2 => by
        show (T1 15 j, T1 16 j, T1 17 j) = (T 15 (j - 1), T 16 (j - 1), T 17 (j - 1))
        rw [p15, p16, p17, insA_gt h1 (by omega), insA_gt h1 (by omega), insA_gt h1 (by omega)])
      rw [show i + (nr - i) + 1 = nr + 1 by omega] at h
      exact h
    · rcases Nat.lt_or_ge i nr with h | h
      · obtain ⟨m, hm⟩ : ∃ m, nr - i = m + 1 := ⟨nr - i - 1, by omega⟩
        rw [hm, List.range_succ_eq_map]
        exact Or.inr ⟨_, rfl, h⟩
      · rw [show nr - i = 0 by omega]
        exact Or.inl rfl
  obtain ⟨l2, lT1, lT2, lT3⟩ := hlT
  have hk1 : (nI k, nI z2, nI pr).1 = nI k := rfl
  have hk3 : (nI k, nI z2, nI pr).2.2 = nI pr := rfl
  -- the place
  have hbs : byS (forK k (rqA (M 1) nr)) 10 = hiS (forK k (rqA (M 1) nr)) pr (10 - pr) ++ byS (forK k (rqA (M 1) nr)) pr := by
    have h := byS_hi (forK k (rqA (M 1) nr)) pr (10 - pr)
    rw [show pr + (10 - pr) = 10 by omega] at h
    exact h
  have hsp : forK k (rqT T i) = hiS (forK k (rqA (M 1) nr)) pr (10 - pr) ∧ forK k l2 = byS (forK k (rqA (M 1) nr)) pr := by
    have h0 : forK k (rqT T i) ++ forK k l2 = hiS (forK k (rqA (M 1) nr)) pr (10 - pr) ++ byS (forK k (rqA (M 1) nr)) pr := by
      rw [← forK_app, ← lT1, hR, byP_S, hbs]
    refine app_split (P := fun x : Rq => ∃ z, pr ≤ z ∧ z < 10 ∧ x.2.2 = nI z) (Q := fun x : Rq => ∃ z, z < pr ∧ x.2.2 = nI z) (fun x h1 h2 => ?_) h0 i3 (fun x l hx => ?_) (fun x hx => ?_) (fun x hx => ?_)
    · obtain ⟨z, g1, g2, g3⟩ := h1
      obtain ⟨z', g4, g5⟩ := h2
      have := (zI_eq (by omega) (by omega)).mp (g3.symm.trans g5)
      omega
    · rcases lT3 with h | ⟨l3, h, hin⟩
      · rw [h] at hx; cases hx
      · rcases i4 with q | ⟨q1, q2, z, q3, q4⟩
        · omega
        · rw [h, forK_in (show (T 15 i, T 16 i, T 17 i).1 = nI k from q2)] at hx
          injection hx with hx1 hx2
          exact ⟨z, q3, by rw [← hx1]; exact q4⟩
    · obtain ⟨z, g1, g2, g3⟩ := hiS_mem hx
      exact ⟨z, g1, by omega, g3⟩
    · obtain ⟨z, g1, g2, -⟩ := byS_mem hx
      exact ⟨z, g1, g2⟩
  have hplace : (forK k (rqT T i)).length = cg (M 1) k pr nr := by
    have h1 := ge_len (pr := pr) (by omega) hpri
    have h2 := byS_len (s := 10) (by omega) (fun x hx => by
      obtain ⟨p, g1, g2⟩ := hpri x hx
      exact ⟨p, by omega, g2⟩)
    rw [hbs, List.length_append] at h2
    rw [hsp.1]
    unfold cg
    omega
  refine ⟨(nI (forK k (rqT T i)).length, T1), (0, M1), hcl, hrf, op_ok (by decide) hnear (zI_pos (by have := forK_len_le k (rqT T i); rw [rqT_len] at this; omega)) (by rw [h06, hplace]) ⟨np, nf, nu, nr + 1, ⟨c1, c2, c3, by omega, (p0 2 (by decide)).trans d1, (aN 5 (by omega) (by omega)).trans d2, (p0 3 (by decide)).trans d3, (aN 38 (by omega) (by omega)).trans d4, (p0 4 (by decide)).trans d5, (aN 159 (by omega) (by omega)).trans d6, p5, by rw [row, upd_eq]⟩, RTop_c (p0 0 (by decide)) (p0 1 (by decide)) r1 (fun c hc => aN c (by omega) (by omega)) htop, RPro_c c1 c2 r2 r3 r4 r5 r6 (fun c h1 h2 => aN c (by omega) (by omega)) (fun c h1 h2 => aN c (by omega) (by omega)) hpro, RPer_c c2 (Nat.le_refl nu) r7 r8 r9 r10 r11 r12 (fun c hc => aN c (by omega) (by omega)) (fun c h1 h2 => aN c (by omega) (by omega)) (fun c hc => heldS_c (aN _ (by omega) (by omega)) (fun u hu => aN _ (by omega) (by omega))) hper, RApt_c c2 (fun c h1 h2 => aN c (by omega) (by omega)) hapt, RSub_c (fun _ _ => by rw [r13]) (fun _ _ => by rw [r14]) (fun u hu => ⟨aN _ (by omega) (by omega), aN _ (by omega) (by omega)⟩) hsub, ⟨fun k' hk' => ?_, fun q hq => ?_⟩, fun d hd => by rw [r6, r3, p0 0 (by decide)]; exact hcrw d hd⟩⟩
  · rw [lT2, hlA]
    by_cases hkk : k' = k
    · subst hkk
      have hd : 10 - pr = (9 - pr) + 1 := by omega
      have e1 : byS (forK k' (rqA (M 1) nr) ++ [(nI k', nI z2, nI pr)]) 10 = hiS (forK k' (rqA (M 1) nr)) pr (10 - pr) ++ (nI k', nI z2, nI pr) :: byS (forK k' (rqA (M 1) nr)) pr := by
        have h := byS_hi (forK k' (rqA (M 1) nr) ++ [(nI k', nI z2, nI pr)]) pr (10 - pr)
        rw [show pr + (10 - pr) = 10 by omega] at h
        rw [h, byS_skip (b := []) (fun p hp => by
          show nI pr ≠ nI p
          exact ine (by omega) (by omega) (by omega)), List.append_nil, hd, hiS_new hk3 (by omega), List.append_assoc]
        rfl
      rw [forK_app, forK_in hk1, forK_app, forK_in hk1, byP_S]
      show forK k' (rqT T i) ++ (nI k', nI z2, nI pr) :: forK k' l2 = byS (forK k' (rqA (M 1) nr) ++ [(nI k', nI z2, nI pr)]) 10
      rw [e1, hsp.1, hsp.2]
    · have hne' : (nI k, nI z2, nI pr).1 ≠ nI k' := ine (fun e => hkk e.symm) (by omega) (by omega)
      rw [forK_app, forK_out hne', forK_app, forK_out hne']
      show forK k' (rqT T i) ++ forK k' l2 = byP (forK k' (rqA (M 1) nr) ++ [])
      rw [List.append_nil, ← hreq.1 k' hk', lT1, forK_app]
  · refine ⟨?_, ?_⟩
    · rw [p15]
      rcases Nat.lt_trichotomy q i with h | h | h
      · rw [insA_lt h]; exact (hreq.2 q (by omega)).1
      · rw [h, insA_eq]; exact ⟨k, hk, rfl⟩
      · rw [insA_gt h (by omega)]; exact (hreq.2 (q - 1) (by omega)).1
    · by_cases hqn : q = nr
      · subst hqn
        rw [a0, a1, a2]
        exact ⟨⟨k, hk, rfl⟩, ⟨z2, rfl, y1, y2⟩, pr, rfl, hpr⟩
      · rw [aN _ (by omega) (by omega), aN _ (by omega) (by omega), aN _ (by omega) (by omega)]
        exact (hreq.2 q (by omega)).2
