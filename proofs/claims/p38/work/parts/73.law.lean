/-! the law, from its end to its start, over such a season -/
section LW
variable {N : Nat} {S : CS} {np nf nu nr : Nat}
theorem l_1015 (hN : 30 < N) (h24 : 24 < N) (I : Inv (S 0) np nf nu nr) (M : Nat → Nat → Int32) : D_L_law_1015 N S N M (nI nu) (nI (sumN (svN (S 0) 0) nf)) (nI (sumN (svN (S 0) 1) nf)) (nI (sumN (svN (S 0) 2) nf)) (sumI (fun p => tkI (S 0) p nf) np) (nI (maxN (loadN (S 0 6) (S 0 2) np) 30)) (nI nr) 0 = some 1 := by
  have i3 := (inv_cnt I).2.2.1
  refine loopN (fun n (_ : Unit) i => D_L_law_1015 N S n M (nI nu) (nI (sumN (svN (S 0) 0) nf)) (nI (sumN (svN (S 0) 1) nf)) (nI (sumN (svN (S 0) 2) nf)) (sumI (fun p => tkI (S 0) p nf) np) (nI (maxN (loadN (S 0 6) (S 0 2) np) 30)) (nI nr) i) (fun _ => ()) nu _ (fun n => ?_) (fun n i hi => ?_) nu N 0 (by omega) (by omega)
  · show D_L_law_1015 N S (n + 1) M (nI nu) (nI (sumN (svN (S 0) 0) nf)) (nI (sumN (svN (S 0) 1) nf)) (nI (sumN (svN (S 0) 2) nf)) (sumI (fun p => tkI (S 0) p nf) np) (nI (maxN (loadN (S 0 6) (S 0 2) np) 30)) (nI nr) (nI nu) = some 1
    rw [D_L_law_1015, if_pos (ile_t (Nat.le_refl nu) (by omega)), y_peak hN I, Option.bind_some, if_pos rfl, y_a3 I, Option.bind_some, if_pos rfl, y_a4 h24 I, Option.bind_some, if_pos rfl, y_a5 h24 I, Option.bind_some, if_pos rfl, y_a6 h24 I, Option.bind_some, if_pos rfl, y_a9 h24 I, Option.bind_some, if_pos rfl]
  · show D_L_law_1015 N S (n + 1) M (nI nu) (nI (sumN (svN (S 0) 0) nf)) (nI (sumN (svN (S 0) 1) nf)) (nI (sumN (svN (S 0) 2) nf)) (sumI (fun p => tkI (S 0) p nf) np) (nI (maxN (loadN (S 0 6) (S 0 2) np) 30)) (nI nr) (nI i) = D_L_law_1015 N S n M (nI nu) (nI (sumN (svN (S 0) 0) nf)) (nI (sumN (svN (S 0) 1) nf)) (nI (sumN (svN (S 0) 2) nf)) (sumI (fun p => tkI (S 0) p nf) np) (nI (maxN (loadN (S 0 6) (S 0 2) np) 30)) (nI nr) (nI (i + 1))
    have e14 := ((inv_sub I).2 i hi).2
    rw [D_L_law_1015, if_neg (ile_f hi (by omega)), y_u1 h24 I hi, Option.bind_some, y_u3 h24 I hi, Option.bind_some, if_pos rfl, y_u2 h24 I hi, Option.bind_some, if_pos (show nI (nv (S 0 14 i)) ≤ 2 from ile_t (b := 2) (by omega) (by decide)), zI_succ]
theorem l_826 (h24 : 24 < N) (I : Inv (S 0) np nf nu nr) (k796 : (Nat → Nat → Int32) → Int32 → Int32 → Int32 → Int32 → Int32 → Int32 → Int32 → Int32 → Int32 → Int32 → Option Int32) (M : Nat → Nat → Int32) (v2 v4 v5 v6 v7 v8 v9 v10 : Int32) {p : Nat} (hp : p < np) :
    D_L_law_826 N S k796 N M v2 (nI nf) v4 v5 v6 v7 v8 v9 v10 (nI p) 0 0 0 0 (S 0 4 p) 0 = k796 M v2 (nI nf) v4 v5 v6 v7 (v8 + tkI (S 0) p nf) v9 v10 (nI (p + 1)) := by
  obtain ⟨i1, i2, i3, i4⟩ := inv_cnt I
  refine loopN (fun n (a : Int32 × Int32 × Int32 × Int32) i => D_L_law_826 N S k796 n M v2 (nI nf) v4 v5 v6 v7 v8 v9 v10 (nI p) a.1 a.2.1 a.2.2.1 a.2.2.2 (S 0 4 p) i) (fun i => (tkI (S 0) p i, nI (sumN (fun k => if nv (S 0 7 k) = p then 1 else 0) i), nI (ptN (S 0) p i), nI (psN (S 0) p i))) nf _ (fun n => ?_) (fun n i hi => ?_) nf N 0 (by omega) (by omega)
  · show D_L_law_826 N S k796 (n + 1) M v2 (nI nf) v4 v5 v6 v7 v8 v9 v10 (nI p) (tkI (S 0) p nf) (nI (sumN (fun k => if nv (S 0 7 k) = p then 1 else 0) nf)) (nI (ptN (S 0) p nf)) (nI (psN (S 0) p nf)) (S 0 4 p) (nI nf) = _
    rw [D_L_law_826, if_pos (ile_t (Nat.le_refl nf) (by omega)), y_d4 I hp, Option.bind_some, if_pos rfl, y_d7 h24 I hp, Option.bind_some, if_pos rfl, y_part h24 I hp, Option.bind_some, y_d3 I hp, Option.bind_some, if_pos rfl, zI_succ]
    have hcb : sumN (fun k => if nv (S 0 7 k) = p then 1 else 0) nf ≤ nf * 1 := sumN_bd (fun k _ => by by_cases h : nv (S 0 7 k) = p <;> simp [h])
    by_cases hc : sumN (fun k => if nv (S 0 7 k) = p then 1 else 0) nf = 0
    · rw [if_pos (show nI (sumN (fun k => if nv (S 0 7 k) = p then 1 else 0) nf) ≤ 0 by rw [hc]; exact ile_t (a := 0) (b := 0) (Nat.le_refl 0) (by decide))]
    · have hps : 0 < psN (S 0) p nf := by
        have : sumN (fun k => if nv (S 0 7 k) = p then 1 else 0) nf ≤ psN (S 0) p nf := sumN_le (fun k _ => by
          by_cases h : nv (S 0 7 k) = p
          · rw [if_pos h, if_pos h]; omega
          · rw [if_neg h, if_neg h]; exact Nat.le_refl 0)
        omega
      have hb := psN_bd (p := p) I
      rw [if_neg (show ¬ nI (sumN (fun k => if nv (S 0 7 k) = p then 1 else 0) nf) ≤ 0 from ile_f (b := 0) (by omega) (by omega)), y_full h24 I hp hps, Option.bind_some, if_pos (decide_eq_true (show nI (psN (S 0) p nf) ≠ 0 from ine (b := 0) (by omega) (by omega) (by decide))), if_pos rfl]
  · show D_L_law_826 N S k796 (n + 1) M v2 (nI nf) v4 v5 v6 v7 v8 v9 v10 (nI p) (tkI (S 0) p i) (nI (sumN (fun k => if nv (S 0 7 k) = p then 1 else 0) i)) (nI (ptN (S 0) p i)) (nI (psN (S 0) p i)) (S 0 4 p) (nI i) = D_L_law_826 N S k796 n M v2 (nI nf) v4 v5 v6 v7 v8 v9 v10 (nI p) (tkI (S 0) p i + (if nv (S 0 7 i) = p then S 0 4 p * S 0 10 i + 4 * S 0 4 p / 5 * S 0 11 i else 0)) (nI (sumN (fun k => if nv (S 0 7 k) = p then 1 else 0) i + (if nv (S 0 7 i) = p then 1 else 0))) (nI (ptN (S 0) p i + (if nv (S 0 7 i) = p then nv (S 0 10 i) + nv (S 0 11 i) else 0))) (nI (psN (S 0) p i + (if nv (S 0 7 i) = p then 40 + 20 * nv (S 0 8 i) else 0))) (S 0 4 p) (nI (i + 1))
    have e7 := ((inv_per I).1 i hi).2
    have e8 := ((inv_per I).2.1 i hi).2
    have e10 : nI (svN (S 0) 0 i) = S 0 10 i := ((inv_per I).2.2.2.1 i hi).1.symm
    have e11 : nI (svN (S 0) 1 i) = S 0 11 i := ((inv_per I).2.2.2.2.1 i hi).1.symm
    rw [D_L_law_826, if_neg (ile_f hi (by omega)), y_p0 I hi, Option.bind_some, zI_succ]
    by_cases h : nv (S 0 7 i) = p
    · rw [if_pos (show nI (nv (S 0 7 i)) = nI p by rw [h]), y_p3 I hi, Option.bind_some, y_p4 I hi, Option.bind_some, Option.bind_some, Option.bind_some, y_p1 I hi, Option.bind_some, y_a10 I e8, Option.bind_some, zI_succ, if_pos h, if_pos h, if_pos h, if_pos h, zI_add (svN (S 0) 0 i), zI_add, zI_add, e10, e11]
      rfl
    · rw [if_neg (ine h (by omega) (by omega)), if_neg h, if_neg h, if_neg h, if_neg h, Int32.add_zero, zI_succ]
      rfl
theorem l_796 (hN : 30 < N) (h24 : 24 < N) (I : Inv (S 0) np nf nu nr) (M : Nat → Nat → Int32) : D_L_law_796 N S N M (nI np) (nI nf) (nI nu) (nI (sumN (svN (S 0) 0) nf)) (nI (sumN (svN (S 0) 1) nf)) (nI (sumN (svN (S 0) 2) nf)) 0 (nI (maxN (loadN (S 0 6) (S 0 2) np) 30)) (nI nr) 0 = some 1 := by
  obtain ⟨i1, i2, i3, i4⟩ := inv_cnt I
  refine loopN (fun n a i => D_L_law_796 N S n M (nI np) (nI nf) (nI nu) (nI (sumN (svN (S 0) 0) nf)) (nI (sumN (svN (S 0) 1) nf)) (nI (sumN (svN (S 0) 2) nf)) a (nI (maxN (loadN (S 0 6) (S 0 2) np) 30)) (nI nr) i) (fun i => sumI (fun p => tkI (S 0) p nf) i) np _ (fun n => ?_) (fun n i hi => ?_) np N 0 (by omega) (by omega)
  · show D_L_law_796 N S (n + 1) M (nI np) (nI nf) (nI nu) (nI (sumN (svN (S 0) 0) nf)) (nI (sumN (svN (S 0) 1) nf)) (nI (sumN (svN (S 0) 2) nf)) (sumI (fun p => tkI (S 0) p nf) np) (nI (maxN (loadN (S 0 6) (S 0 2) np) 30)) (nI nr) (nI np) = some 1
    rw [D_L_law_796, if_pos (ile_t (Nat.le_refl np) (by omega))]
    exact l_1015 hN h24 I M
  · show D_L_law_796 N S (n + 1) M (nI np) (nI nf) (nI nu) (nI (sumN (svN (S 0) 0) nf)) (nI (sumN (svN (S 0) 1) nf)) (nI (sumN (svN (S 0) 2) nf)) (sumI (fun p => tkI (S 0) p nf) i) (nI (maxN (loadN (S 0 6) (S 0 2) np) 30)) (nI nr) (nI i) = D_L_law_796 N S n M (nI np) (nI nf) (nI nu) (nI (sumN (svN (S 0) 0) nf)) (nI (sumN (svN (S 0) 1) nf)) (nI (sumN (svN (S 0) 2) nf)) (sumI (fun p => tkI (S 0) p nf) i + tkI (S 0) i nf) (nI (maxN (loadN (S 0 6) (S 0 2) np) 30)) (nI nr) (nI (i + 1))
    rw [D_L_law_796, if_neg (ile_f hi (by omega)), y_d2 I hi, Option.bind_some]
    exact l_826 h24 I (D_L_law_796 N S n) M (nI np) (nI nu) (nI (sumN (svN (S 0) 0) nf)) (nI (sumN (svN (S 0) 1) nf)) (nI (sumN (svN (S 0) 2) nf)) (sumI (fun p => tkI (S 0) p nf) i) (nI (maxN (loadN (S 0 6) (S 0 2) np) 30)) (nI nr) hi
theorem l_735 (h24 : 24 < N) (I : Inv (S 0) np nf nu nr) (k488 : (Nat → Nat → Int32) → Int32 → Int32 → Int32 → Int32 → Int32 → Int32 → Int32 → Int32 → Int32 → Int32 → Option Int32) (M : Nat → Nat → Int32) (v2 v3 v4 v5 v6 v7 v8 v9 v10 : Int32) {d : Nat} (hd : d < 30) (hM : ∀ c, c < 3 → M d c = nI (sdN (S 0) c d nf)) :
    D_L_law_735 N S k488 N M v2 v3 v4 v5 v6 v7 v8 v9 v10 (nI d) 0 = k488 M v2 v3 v4 v5 v6 v7 v8 v9 v10 (nI (d + 1)) := by
  refine loopN (fun n (_ : Unit) i => D_L_law_735 N S k488 n M v2 v3 v4 v5 v6 v7 v8 v9 v10 (nI d) i) (fun _ => ()) 3 _ (fun n => ?_) (fun n i hi => ?_) 3 N 0 (by omega) (by omega)
  · show D_L_law_735 N S k488 (n + 1) M v2 v3 v4 v5 v6 v7 v8 v9 v10 (nI d) (nI 3) = _
    rw [D_L_law_735, if_pos (by decide), zI_succ]
  · show D_L_law_735 N S k488 (n + 1) M v2 v3 v4 v5 v6 v7 v8 v9 v10 (nI d) (nI i) = D_L_law_735 N S k488 n M v2 v3 v4 v5 v6 v7 v8 v9 v10 (nI d) (nI (i + 1))
    have e : M (nI d).toNatClampNeg (nI i).toNatClampNeg = nI (sdN (S 0) i d nf) := by rw [zI_nat (by omega), zI_nat (by omega)]; exact hM i hi
    rw [D_L_law_735, if_neg (show ¬ (3 : Int32) ≤ nI i from ile_f (a := 3) hi (by decide)), y_seats h24 I hd hi, Option.bind_some, if_pos (zI_inb hd (by decide)), if_pos (zI_inb hi (by decide)), e, if_pos rfl, y_again h24 I hd hi, Option.bind_some, if_pos (zI_inb hd (by decide)), if_pos (zI_inb hi (by decide)), if_pos rfl, zI_succ]
end LW
