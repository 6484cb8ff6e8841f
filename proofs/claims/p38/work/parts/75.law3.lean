/-! the law's performances -/
def toldM (T : RM) (i w : Nat) : Nat → Nat → Int32 := fun d c => if c < 3 then nI (sdN T c d i + (if nv (T 9 i) = d ∧ c < w then svN T c i else 0)) else 0
theorem told_next (T : RM) (i : Nat) : toldM T i 3 = toldM T (i + 1) 0 := by
  funext d c
  unfold toldM
  by_cases hc : c < 3
  · rw [if_pos hc, if_pos hc, if_neg (show ¬ (nv (T 9 (i + 1)) = d ∧ c < 0) from fun h => absurd h.2 (Nat.not_lt_zero c))]
    show nI (sdN T c d i + _) = nI (sdN T c d i + (if nv (T 9 i) = d then svN T c i else 0) + 0)
    by_cases h : nv (T 9 i) = d
    · rw [if_pos ⟨h, hc⟩, if_pos h]; rfl
    · rw [if_neg (fun q => h q.1), if_neg h]
  · rw [if_neg hc, if_neg hc]
theorem told_set (T : RM) (i : Nat) {w : Nat} (hw : w < 3) : tU (toldM T i w) (nv (T 9 i)) w (toldM T i w (nv (T 9 i)) w + nI (svN T w i)) = toldM T i (w + 1) := by
  have e0 : toldM T i w (nv (T 9 i)) w = nI (sdN T w (nv (T 9 i)) i) := by
    unfold toldM
    rw [if_pos hw, if_neg (fun h => absurd h.2 (Nat.lt_irrefl w))]
    rfl
  rw [e0, zI_add]
  funext d c
  unfold tU
  by_cases h : d = nv (T 9 i)
  · subst h
    rw [if_pos rfl]
    by_cases hcw : c = w
    · subst hcw
      rw [upd_eq]
      unfold toldM
      rw [if_pos hw, if_pos ⟨rfl, Nat.lt_succ_self c⟩]
    · rw [upd_ne hcw]
      unfold toldM
      by_cases hc : c < 3
      · rw [if_pos hc, if_pos hc]
        by_cases hlt : c < w
        · rw [if_pos ⟨rfl, hlt⟩, if_pos ⟨rfl, Nat.lt_succ_of_lt hlt⟩]
        · rw [if_neg (fun q => hlt q.2), if_neg (fun q => by have := q.2; omega)]
      · rw [if_neg hc, if_neg hc]
  · rw [if_neg h]
    unfold toldM
    by_cases hc : c < 3
    · rw [if_pos hc, if_pos hc, if_neg (fun q => h q.1.symm), if_neg (fun q => h q.1.symm)]
    · rw [if_neg hc, if_neg hc]
theorem told_0 (T : RM) : (fun _ _ => 0) = toldM T 0 0 := by
  funext d c
  unfold toldM
  by_cases hc : c < 3
  · rw [if_pos hc, if_neg (fun q => absurd q.2 (Nat.not_lt_zero c))]
    rfl
  · rw [if_neg hc]
theorem told_end (T : RM) (i d : Nat) {c : Nat} (hc : c < 3) : toldM T i 0 d c = nI (sdN T c d i) := by
  unfold toldM
  rw [if_pos hc, if_neg (fun q => absurd q.2 (Nat.not_lt_zero c))]
  rfl
theorem sum_mono {f : Nat → Nat} {a b : Nat} (h : a ≤ b) : sumN f a ≤ sumN f b := by
  obtain ⟨c, rfl⟩ : ∃ c, b = a + c := ⟨b - a, by omega⟩
  clear h
  induction c with
  | zero => exact Nat.le_refl _
  | succ c ih => exact Nat.le_trans ih (Nat.le_add_right _ _)
section LP
variable {N : Nat} {S : CS} {np nf nu nr : Nat}
theorem rq_all {T : RM} (I : Inv T np nf nu nr) : sumN (fun k => rqN T k nr) nf = nr := by
  have h := sum_parts (n := nr) (m := nf) (P := fun q => nv (T 15 q)) (fun q hq => ((inv_req I).1 q hq).2) (fun _ => True) (fun _ _ => 1)
  have h2 : sumN (fun k => rqN T k nr) nf = sumN (fun p => sumN (fun k => if nv (T 15 k) = p ∧ True then 1 else 0) nr) nf := sumN_congr (fun p _ => sumN_congr (fun k _ => by
    by_cases e : nv (T 15 k) = p
    · rw [if_pos e, if_pos ⟨e, trivial⟩]
    · rw [if_neg e, if_neg (fun q => e q.1)]))
  rw [h2, h, sumN_congr (g := fun _ => 1) (fun k _ => if_pos trivial), sumN_const, Nat.mul_one]
theorem l_435 (h24 : 24 < N) (I : Inv (S 0) np nf nu nr) (k126 : (Nat → Nat → Int32) → Int32 → Int32 → Int32 → Int32 → Int32 → Int32 → Int32 → Int32 → Int32 → Int32 → Option Int32) (M : Nat → Nat → Int32) (v2 v3 v4 v5 v6 v7 v8 v9 v10 : Int32) {k : Nat} (hk : k < nf) :
    D_L_law_435 N S k126 N M v2 v3 v4 v5 v6 v7 v8 v9 v10 (nI k) 1 = k126 M v2 v3 v4 v5 v6 v7 v8 v9 v10 (nI (k + 1)) := by
  obtain ⟨i1, i2, i3, i4⟩ := inv_cnt I
  have hb : rqN (S 0) k nr ≤ nr * 1 := sumN_bd (fun j _ => by by_cases h : nv (S 0 15 j) = k <;> simp [h])
  by_cases h1 : rqN (S 0) k nr ≤ 1
  · obtain ⟨n, hn⟩ : ∃ n, N = n + 1 := ⟨N - 1, by omega⟩
    have e : ∀ n, D_L_law_435 N S k126 (n + 1) M v2 v3 v4 v5 v6 v7 v8 v9 v10 (nI k) 1 = k126 M v2 v3 v4 v5 v6 v7 v8 v9 v10 (nI (k + 1)) := fun n => by
      rw [D_L_law_435, y_p6 h24 I hk, Option.bind_some, if_pos (show nI (rqN (S 0) k nr) ≤ 1 from ile_t (b := 1) h1 (by decide)), zI_succ]
    have := e n
    rw [← hn] at this
    exact this
  · have key : D_L_law_435 N S k126 N M v2 v3 v4 v5 v6 v7 v8 v9 v10 (nI k) (nI 0 + 1) = k126 M v2 v3 v4 v5 v6 v7 v8 v9 v10 (nI (k + 1)) := by
      refine loopN (fun n (_ : Unit) i => D_L_law_435 N S k126 n M v2 v3 v4 v5 v6 v7 v8 v9 v10 (nI k) (i + 1)) (fun _ => ()) (rqN (S 0) k nr - 1) _ (fun n => ?_) (fun n i hi => ?_) (rqN (S 0) k nr - 1) N 0 (by omega) (by omega)
      · show D_L_law_435 N S k126 (n + 1) M v2 v3 v4 v5 v6 v7 v8 v9 v10 (nI k) (nI (rqN (S 0) k nr - 1) + 1) = _
        rw [D_L_law_435, y_p6 h24 I hk, Option.bind_some, zI_succ, if_pos (ile_t (by omega) (by omega)), zI_succ]
      · show D_L_law_435 N S k126 (n + 1) M v2 v3 v4 v5 v6 v7 v8 v9 v10 (nI k) (nI i + 1) = D_L_law_435 N S k126 n M v2 v3 v4 v5 v6 v7 v8 v9 v10 (nI k) (nI (i + 1) + 1)
        obtain ⟨a, a1, a2, a3, a4⟩ := y_wait (N := N) h24 I hk (show i + 1 < rqN (S 0) k nr by omega)
        obtain ⟨b, b1, b2, b3, b4⟩ := y_wait (N := N) h24 I hk (show i < rqN (S 0) k nr by omega)
        have hba : b < a := by
          rcases Nat.lt_or_ge b a with h | h
          · exact h
          · have := sum_mono (f := fun q => if nv (S 0 15 q) = k then 1 else 0) h
            have e1 : rqN (S 0) k a ≤ rqN (S 0) k b := this
            omega
        have hpr := inv_pri I b a hba a1 (b2.trans a2.symm)
        have e17 := ((inv_req I).2.2 b b1).2
        have hs : nI (i + 1) - 1 = nI i := zI_sub (a := i + 1) (b := 1) (by omega)
        rw [D_L_law_435, y_p6 h24 I hk, Option.bind_some, zI_succ, if_neg (ile_f (by omega) (by omega)), a4, Option.bind_some, hs, b4, Option.bind_some, if_pos (ile_t hpr (by omega))]
    exact key
theorem l_355 (h24 : 24 < N) (I : Inv (S 0) np nf nu nr) (k126 : (Nat → Nat → Int32) → Int32 → Int32 → Int32 → Int32 → Int32 → Int32 → Int32 → Int32 → Int32 → Int32 → Option Int32) (v2 v3 v4 v5 v6 v7 v8 v9 v10 v16 : Int32) {k : Nat} (hk : k < nf) :
    D_L_law_355 N S k126 N (toldM (S 0) k 0) v2 v3 v4 v5 v6 v7 v8 v9 v10 (nI k) (nI (nv (S 0 9 k))) v16 0 = k126 (toldM (S 0) (k + 1) 0) v2 v3 v4 (v5 + nI (svN (S 0) 0 k)) (v6 + v16) (v7 + nI (svN (S 0) 2 k)) v8 v9 (v10 + nI (rqN (S 0) k nr)) (nI (k + 1)) := by
  have e9 := ((inv_per I).2.2.1 k hk).2
  refine loopN (fun n a i => D_L_law_355 N S k126 n a v2 v3 v4 v5 v6 v7 v8 v9 v10 (nI k) (nI (nv (S 0 9 k))) v16 i) (fun i => toldM (S 0) k i) 3 _ (fun n => ?_) (fun n i hi => ?_) 3 N 0 (by omega) (by omega)
  · show D_L_law_355 N S k126 (n + 1) (toldM (S 0) k 3) v2 v3 v4 v5 v6 v7 v8 v9 v10 (nI k) (nI (nv (S 0 9 k))) v16 (nI 3) = _
    rw [D_L_law_355, if_pos (by decide), y_p3 I hk, Option.bind_some, y_p5 I hk, Option.bind_some, y_p6 h24 I hk, Option.bind_some, told_next]
    exact l_435 h24 I k126 _ v2 v3 v4 _ _ _ v8 v9 _ hk
  · show D_L_law_355 N S k126 (n + 1) (toldM (S 0) k i) v2 v3 v4 v5 v6 v7 v8 v9 v10 (nI k) (nI (nv (S 0 9 k))) v16 (nI i) = D_L_law_355 N S k126 n (toldM (S 0) k (i + 1)) v2 v3 v4 v5 v6 v7 v8 v9 v10 (nI k) (nI (nv (S 0 9 k))) v16 (nI (i + 1))
    rw [D_L_law_355, if_neg (show ¬ (3 : Int32) ≤ nI i from ile_f (a := 3) hi (by decide)), if_pos (zI_inb e9 (by decide)), if_pos (zI_inb hi (by decide)), y_p3w I hk hi, Option.bind_some, if_pos (zI_inb hi (by decide)), jlet_eq, zI_nat (by omega), zI_nat (by omega), told_set (S 0) k hi, zI_succ]
theorem l_296 (h24 : 24 < N) (I : Inv (S 0) np nf nu nr) (k126 : (Nat → Nat → Int32) → Int32 → Int32 → Int32 → Int32 → Int32 → Int32 → Int32 → Int32 → Int32 → Int32 → Option Int32) (M : Nat → Nat → Int32) (v2 v3 v4 v5 v6 v7 v8 v9 v10 v16 : Int32) {k : Nat} (hk : k < nf) :
    D_L_law_296 N S k126 N M v2 v3 v4 v5 v6 v7 v8 v9 v10 (nI k) (nI (nv (S 0 8 k))) (nI (nv (S 0 9 k))) v16 0 = D_L_law_355 N S k126 N M v2 v3 v4 v5 v6 v7 v8 v9 v10 (nI k) (nI (nv (S 0 9 k))) v16 0 := by
  obtain ⟨i1, i2, i3, i4⟩ := inv_cnt I
  refine loopN (fun n (_ : Unit) i => D_L_law_296 N S k126 n M v2 v3 v4 v5 v6 v7 v8 v9 v10 (nI k) (nI (nv (S 0 8 k))) (nI (nv (S 0 9 k))) v16 i) (fun _ => ()) k _ (fun n => ?_) (fun n i hi => ?_) k N 0 (by omega) (by omega)
  · show D_L_law_296 N S k126 (n + 1) M v2 v3 v4 v5 v6 v7 v8 v9 v10 (nI k) (nI (nv (S 0 8 k))) (nI (nv (S 0 9 k))) v16 (nI k) = _
    rw [D_L_law_296, if_pos (ile_t (Nat.le_refl k) (by omega))]
  · show D_L_law_296 N S k126 (n + 1) M v2 v3 v4 v5 v6 v7 v8 v9 v10 (nI k) (nI (nv (S 0 8 k))) (nI (nv (S 0 9 k))) v16 (nI i) = D_L_law_296 N S k126 n M v2 v3 v4 v5 v6 v7 v8 v9 v10 (nI k) (nI (nv (S 0 8 k))) (nI (nv (S 0 9 k))) v16 (nI (i + 1))
    have hin : i < nf := by omega
    have a7 := ((inv_per I).1 i hin).2
    have a8 := ((inv_per I).2.1 i hin).2
    have a9 := ((inv_per I).2.2.1 i hin).2
    have b7 := ((inv_per I).1 k hk).2
    have b8 := ((inv_per I).2.1 k hk).2
    have b9 := ((inv_per I).2.2.1 k hk).2
    rw [D_L_law_296, if_neg (ile_f hi (by omega)), y_p2 I hin, Option.bind_some, y_p1 I hin, Option.bind_some, y_p0 I hin, Option.bind_some, y_p0 I hk, Option.bind_some, zI_succ]
    by_cases h9 : nv (S 0 9 i) = nv (S 0 9 k)
    · obtain ⟨g1, g2⟩ := inv_apt I i k hin hk (by omega) h9
      rw [if_pos (by rw [h9]), if_neg (ine g1 (by omega) (by omega)), if_neg (ine g2 (by omega) (by omega))]
    · rw [if_neg (ine h9 (by omega) (by omega))]
theorem bitv (b : Nat) {u : Nat} (hu : u < 32) : ((nI b >>> (nI u &&& 31)) &&& (1 : Int32)) = if b.testBit u = true then 1 else 0 := by
  have h0 : (nI b >>> (nI u &&& 31)) &&& (1 : Int32) = 0 ↔ b.testBit u = false := by
    rw [bit0, b_sshr u hu _ (by decide), if_pos (by omega), Nat.add_zero, b_nI b u hu]
  have h1 : (nI b >>> (nI u &&& 31)) &&& (1 : Int32) = 1 ↔ b.testBit u = true := by
    rw [bit1, b_sshr u hu _ (by decide), if_pos (by omega), Nat.add_zero, b_nI b u hu]
  by_cases h : b.testBit u = true
  · rw [if_pos h]; exact h1.mpr h
  · rw [if_neg h]; exact h0.mpr (by simpa using h)
theorem l_166 (h24 : 24 < N) (I : Inv (S 0) np nf nu nr) (k126 : (Nat → Nat → Int32) → Int32 → Int32 → Int32 → Int32 → Int32 → Int32 → Int32 → Int32 → Int32 → Int32 → Option Int32) (v2 v3 v5 v6 v7 v8 v9 v10 : Int32) {k : Nat} (hk : k < nf) :
    D_L_law_166 N S k126 N (toldM (S 0) k 0) v2 v3 (nI nu) v5 v6 v7 v8 v9 v10 (nI k) (nI (nv (S 0 8 k))) (nI (nv (S 0 9 k))) (nI (nv (S 0 12 k))) 0 0 = k126 (toldM (S 0) (k + 1) 0) v2 v3 (nI nu) (v5 + nI (svN (S 0) 0 k)) (v6 + nI (svN (S 0) 1 k)) (v7 + nI (svN (S 0) 2 k)) v8 v9 (v10 + nI (rqN (S 0) k nr)) (nI (k + 1)) := by
  obtain ⟨i1, i2, i3, i4⟩ := inv_cnt I
  have hh := inv_hld I k hk
  have e8 := ((inv_per I).2.1 k hk).2
  refine loopN (fun n a i => D_L_law_166 N S k126 n (toldM (S 0) k 0) v2 v3 (nI nu) v5 v6 v7 v8 v9 v10 (nI k) (nI (nv (S 0 8 k))) (nI (nv (S 0 9 k))) (nI (nv (S 0 12 k))) a i) (fun i => nI (hldN (S 0) k i)) nu _ (fun n => ?_) (fun n i hi => ?_) nu N 0 (by omega) (by omega)
  · show D_L_law_166 N S k126 (n + 1) (toldM (S 0) k 0) v2 v3 (nI nu) v5 v6 v7 v8 v9 v10 (nI k) (nI (nv (S 0 8 k))) (nI (nv (S 0 9 k))) (nI (nv (S 0 12 k))) (nI (hldN (S 0) k nu)) (nI nu) = _
    have e1 : hldN (S 0) k nu = svN (S 0) 1 k := hh.1.symm
    have hf : freN (S 0) k ≤ 80 := freN_le I hk
    have hsum : nI (svN (S 0) 0 k) + nI (svN (S 0) 1 k) + nI (svN (S 0) 2 k) = nI (40 + 20 * nv (S 0 8 k)) := by
      rw [zI_add, zI_add]
      congr 1
      show nv (S 0 10 k) + nv (S 0 11 k) + freN (S 0) k = _
      have := hh.2
      unfold freN
      omega
    have hneg : ¬ nI (svN (S 0) 2 k) < 0 := Int32.not_lt.mpr (zI_pos (show freN (S 0) k < 2 ^ 31 by omega))
    rw [D_L_law_166, if_pos (ile_t (Nat.le_refl nu) (by omega)), e1, y_p4 I hk, Option.bind_some, if_pos rfl, y_p3 I hk, Option.bind_some, y_p5 I hk, Option.bind_some, y_a10 I e8, Option.bind_some, if_pos hsum, Option.bind_some, if_neg hneg, y_on h24 I hk, Option.bind_some, if_pos rfl, l_296 h24 I k126 _ v2 v3 (nI nu) v5 v6 v7 v8 v9 v10 _ hk]
    exact l_355 h24 I k126 v2 v3 (nI nu) v5 v6 v7 v8 v9 v10 _ hk
  · show D_L_law_166 N S k126 (n + 1) (toldM (S 0) k 0) v2 v3 (nI nu) v5 v6 v7 v8 v9 v10 (nI k) (nI (nv (S 0 8 k))) (nI (nv (S 0 9 k))) (nI (nv (S 0 12 k))) (nI (hldN (S 0) k i)) (nI i) = D_L_law_166 N S k126 n (toldM (S 0) k 0) v2 v3 (nI nu) v5 v6 v7 v8 v9 v10 (nI k) (nI (nv (S 0 8 k))) (nI (nv (S 0 9 k))) (nI (nv (S 0 12 k))) (nI (hldN (S 0) k i + (if (nv (S 0 12 k)).testBit i = true then nv (S 0 13 i) else 0))) (nI (i + 1))
    have hbit : (hsN (S 0) i nf).testBit k = (nv (S 0 12 k)).testBit i := by
      rw [hsN_bit, decide_eq_true hk, Bool.true_and]
    rw [D_L_law_166, if_neg (ile_f hi (by omega)), y_u3 h24 I hi, Option.bind_some, bitv _ (show i < 32 by omega), bitv _ (show k < 32 by omega), hbit, if_pos rfl, y_u0 h24 I hi, Option.bind_some, zI_succ, zI_add]
    by_cases h : (nv (S 0 12 k)).testBit i = true
    · rw [if_pos h, if_pos rfl, if_pos h]
    · rw [if_neg h, if_neg (show ¬ (0 : Int32) = 1 by decide), if_neg h]
      rfl
theorem l_law (hN : 30 < N) (h24 : 24 < N) (I : Inv (S 0) np nf nu nr) : F_L_law N S (fun _ _ => 0) (nI np) (nI nf) (nI nu) = some 1 := by
  obtain ⟨i1, i2, i3, i4⟩ := inv_cnt I
  unfold F_L_law
  rw [told_0 (S 0)]
  refine loopN (fun n (a : (Nat → Nat → Int32) × Int32 × Int32 × Int32 × Int32) i => D_L_law_126 N S n a.1 (nI np) (nI nf) (nI nu) a.2.1 a.2.2.1 a.2.2.2.1 0 0 a.2.2.2.2 i) (fun i => (toldM (S 0) i 0, nI (sumN (svN (S 0) 0) i), nI (sumN (svN (S 0) 1) i), nI (sumN (svN (S 0) 2) i), nI (sumN (fun k => rqN (S 0) k nr) i))) nf _ (fun n => ?_) (fun n i hi => ?_) nf N 0 (by omega) (by omega)
  · show D_L_law_126 N S (n + 1) (toldM (S 0) nf 0) (nI np) (nI nf) (nI nu) (nI (sumN (svN (S 0) 0) nf)) (nI (sumN (svN (S 0) 1) nf)) (nI (sumN (svN (S 0) 2) nf)) 0 0 (nI (sumN (fun k => rqN (S 0) k nr) nf)) (nI nf) = some 1
    rw [D_L_law_126, if_pos (ile_t (Nat.le_refl nf) (by omega)), rq_all I]
    exact l_488 hN h24 I _ (fun d c _ hc => told_end (S 0) nf d hc)
  · show D_L_law_126 N S (n + 1) (toldM (S 0) i 0) (nI np) (nI nf) (nI nu) (nI (sumN (svN (S 0) 0) i)) (nI (sumN (svN (S 0) 1) i)) (nI (sumN (svN (S 0) 2) i)) 0 0 (nI (sumN (fun k => rqN (S 0) k nr) i)) (nI i) = D_L_law_126 N S n (toldM (S 0) (i + 1) 0) (nI np) (nI nf) (nI nu) (nI (sumN (svN (S 0) 0) i + svN (S 0) 0 i)) (nI (sumN (svN (S 0) 1) i + svN (S 0) 1 i)) (nI (sumN (svN (S 0) 2) i + svN (S 0) 2 i)) 0 0 (nI (sumN (fun k => rqN (S 0) k nr) i + rqN (S 0) i nr)) (nI (i + 1))
    rw [D_L_law_126, if_neg (ile_f hi (by omega)), y_p1 I hi, Option.bind_some, y_p2 I hi, Option.bind_some, y_p7 I hi, Option.bind_some, l_166 h24 I (D_L_law_126 N S n) (nI np) (nI nf) (nI (sumN (svN (S 0) 0) i)) (nI (sumN (svN (S 0) 1) i)) (nI (sumN (svN (S 0) 2) i)) 0 0 (nI (sumN (fun k => rqN (S 0) k nr) i)) hi, zI_add, zI_add, zI_add, zI_add]
end LP
