/-! the reference's reader -/
def RT (M : RM) (s : Nat → Int32) (len p : Nat) : Prop := M 0 10 = nI len ∧ M 0 12 = nI p ∧ (∀ j, j < len → M 2 j = s j) ∧ len ≤ 60 ∧ p ≤ 200
def NearX (M M' : RM) : Prop := (∀ r, r ≠ 0 → r ≠ 3 → M' r = M r) ∧ ∀ x, x ≠ 12 → x ≠ 13 → x ≠ 15 → M' 0 x = M 0 x
theorem nearX_refl (M : RM) : NearX M M := ⟨fun _ _ _ => rfl, fun _ _ _ _ => rfl⟩
theorem nearX_trans {M M' M'' : RM} (h : NearX M M') (h2 : NearX M' M'') : NearX M M'' := ⟨fun r a b => (h2.1 r a b).trans (h.1 r a b), fun x a b c => (h2.2 x a b c).trans (h.2 x a b c)⟩
theorem nearX_F {M : RM} {x : Nat} {v : Int32} (h : x = 12 ∨ x = 13 ∨ x = 15) : NearX M (stF M x v) := ⟨fun r r0 _ => stF_ne r0, fun y a b c => stF_o (by omega)⟩
theorem sA_ne {M : RM} {i v : Int32} {r : Nat} (h : r ≠ 3) : stA M 3 i v r = M r := u1_ne h
theorem sA_3 {M : RM} {y : Nat} {v : Int32} (hy : y < 2 ^ 31) : stA M 3 (nI y) v 3 = upd (M 3) y v := by
  unfold stA
  rw [u1_eq, zI_nat hy]
theorem nearX_A {M : RM} {i v : Int32} : NearX M (stA M 3 i v) := ⟨fun r _ r3 => sA_ne r3, fun x _ _ _ => by rw [sA_ne (by decide)]⟩
theorem RT_A {M : RM} {s : Nat → Int32} {len p : Nat} {i v : Int32} (h : RT M s len p) : RT (stA M 3 i v) s len p := ⟨by rw [sA_ne (by decide)]; exact h.1, by rw [sA_ne (by decide)]; exact h.2.1, by rw [sA_ne (by decide)]; exact h.2.2.1, h.2.2.2⟩
theorem RT_12 {M : RM} {s : Nat → Int32} {len p q : Nat} (h : RT M s len p) (hq : q ≤ 200) : RT (stF M 12 (nI q)) s len q := ⟨(stF_o (by decide)).trans h.1, stF_eq, by rw [stF_ne (by decide)]; exact h.2.2.1, h.2.2.2.1, hq⟩
theorem RT_o {M : RM} {s : Nat → Int32} {len p x : Nat} {v : Int32} (h : RT M s len p) (h10 : x ≠ 10) (h12 : x ≠ 12) : RT (stF M x v) s len p := ⟨(stF_o (Ne.symm h10)).trans h.1, (stF_o (Ne.symm h12)).trans h.2.1, by rw [stF_ne (by decide)]; exact h.2.2.1, h.2.2.2⟩
theorem r_here {N : Nat} {M : RM} {s : Nat → Int32} {len p : Nat} (h : RT M s len p) : F_X9_here N M = some (cB s len p) := by
  obtain ⟨h10, h12, h2, hl, hp⟩ := h
  unfold F_X9_here cB
  rw [h10, h12]
  by_cases q : p < len
  · rw [if_neg (ile_f q (by omega)), if_pos (zI_inb (by omega) (by omega)), if_pos q, zI_nat (by omega), h2 p q]
  · rw [if_pos (ile_t (by omega) (by omega)), if_neg q]
theorem r_num0 {N : Nat} {M : RM} {s : Nat → Int32} {len p : Nat} {v : Int32} (h : RT M s len p) (hf : M 0 13 = -1) (hd : jIn (cA s len p) 48 57 = 0) : F_X9_number N M v = some (0, stF M 13 (nI p)) := by
  unfold F_X9_number
  rw [hf, if_pos (by decide), r_here h, Option.bind_some, z_in, Option.bind_some, cAB_dg, if_pos hd, jlet_eq, h.2.1]
theorem r_numF {N f : Nat} {M : RM} {v : Int32} (hf : M 0 13 = nI f) (hfb : f < 2 ^ 31) : F_X9_number N M v = some (0, M) := by
  unfold F_X9_number
  rw [hf, if_neg (Int32.not_lt.mpr (zI_pos hfb))]
theorem r_behF {N f : Nat} {M : RM} {v w : Int32} (hf : M 0 13 = nI f) (hfb : f < 2 ^ 31) : F_X9_behind N M v w = some (0, M) := by
  unfold F_X9_behind
  rw [hf, if_neg (Int32.not_lt.mpr (zI_pos hfb))]
theorem i10_0 (x : Int32) : (10 : Int32) * 0 + x - 48 = x - 48 := by rw [Int32.mul_zero, Int32.zero_add]
theorem r_num {N : Nat} {M : RM} {s : Nat → Int32} {len p : Nat} {lg : Bool} (hN : 5 < N) (h : RT M s len p) (hp : p ≤ 190) (hf : M 0 13 = -1) (hd : ¬ jIn (cA s len p) 48 57 = 0) : ∃ M', F_X9_number N M (if lg = true then 2 else 1) = some (nV s len lg p, M') ∧ RT M' s len (nE s len lg p) ∧ M' 0 13 = -1 ∧ M' 0 15 = M 0 15 ∧ M' 3 = M 3 ∧ NearX M M' := by
  have hpl := cA_dg hd
  obtain ⟨n, rfl⟩ : ∃ n, N = n + 3 := ⟨N - 3, by omega⟩
  have h2 : RT (stF M 12 (nI (p + 1))) s len (p + 1) := RT_12 h (by omega)
  unfold F_X9_number
  rw [hf, if_pos (by decide), r_here h, Option.bind_some, z_in, Option.bind_some, cAB_dg, if_neg hd]
  cases lg with
  | false =>
    rw [if_neg (show ¬ false = true by decide), D_X9_number_37, if_neg (by decide), r_here h, Option.bind_some, z_in, Option.bind_some, cAB_dg, if_neg hd, Option.bind_some, jlet_eq, h.2.1, zI_succ, D_X9_number_37, if_pos (by decide), cAB_eq hpl, i10_0]
    have e1 : nE s len false p = p + 1 := if_neg (fun q => absurd q.1 (by decide))
    have e2 : nV s len false p = cA s len p - 48 := if_neg (fun q => absurd q.1 (by decide))
    rw [e1, e2]
    exact ⟨_, rfl, h2, (stF_o (by decide)).trans hf, stF_o (by decide), stF_ne (by decide), nearX_F (Or.inl rfl)⟩
  | true =>
    rw [if_pos rfl, D_X9_number_37, if_neg (by decide), r_here h, Option.bind_some, z_in, Option.bind_some, cAB_dg, if_neg hd, Option.bind_some, jlet_eq, h.2.1, zI_succ, D_X9_number_37, if_neg (by decide), r_here h2, Option.bind_some, z_in, Option.bind_some, cAB_dg, Option.bind_some, jlet_eq, h2.2.1, zI_succ, cAB_eq hpl, i10_0]
    by_cases hd2 : jIn (cA s len (p + 1)) 48 57 = 0
    · have e1 : nE s len true p = p + 1 := if_neg (fun q => q.2 hd2)
      have e2 : nV s len true p = cA s len p - 48 := if_neg (fun q => q.2 hd2)
      rw [if_pos hd2, e1, e2]
      exact ⟨_, rfl, h2, (stF_o (by decide)).trans hf, stF_o (by decide), stF_ne (by decide), nearX_F (Or.inl rfl)⟩
    · have e1 : nE s len true p = p + 2 := if_pos ⟨rfl, hd2⟩
      have e2 : nV s len true p = (cA s len p - 48) * 10 + cA s len (p + 1) - 48 := if_pos ⟨rfl, hd2⟩
      rw [if_neg hd2, D_X9_number_37, if_pos (by decide), e1, e2, cAB_eq (cA_dg hd2), Int32.mul_comm]
      exact ⟨_, rfl, RT_12 h2 (by omega), (stF_o (by decide)).trans ((stF_o (by decide)).trans hf), (stF_o (by decide)).trans (stF_o (by decide)), (stF_ne (by decide)).trans (stF_ne (by decide)), nearX_trans (nearX_F (Or.inl rfl)) (nearX_F (Or.inl rfl))⟩
theorem r_beh {N : Nat} {M : RM} {s : Nat → Int32} {len p : Nat} {c v : Int32} (h : RT M s len p) (hf : M 0 13 = -1) (h0 : c ≠ 0) (h1 : c ≠ -1) : F_X9_behind N M c v = if cA s len p = c then (F_X9_number N (stF M 12 (nI (p + 1))) v).bind (fun r3 => some (r3.1, r3.2)) else some (0, stF M 13 (nI p)) := by
  unfold F_X9_behind
  rw [hf, if_pos (by decide), r_here h, Option.bind_some, jlet_eq, jlet_eq, h.2.1, zI_succ]
  by_cases q : cA s len p = c
  · rw [if_pos q, if_pos ((cAB_sg h0 h1).mpr q)]
  · rw [if_neg q, if_neg (fun e => q ((cAB_sg h0 h1).mp e))]
theorem fIx_mem {l : Int32} (h : ¬ fIx l = 5) : l = 101 ∨ l = 104 ∨ l = 108 ∨ l = 109 ∨ l = 114 ∨ l = 115 ∨ l = 119 := by
  unfold fIx at h
  by_cases h1 : l = 101
  · exact Or.inl h1
  by_cases h2 : l = 104
  · exact Or.inr (Or.inl h2)
  by_cases h3 : l = 108
  · exact Or.inr (Or.inr (Or.inl h3))
  by_cases h4 : l = 109
  · exact Or.inr (Or.inr (Or.inr (Or.inl h4)))
  by_cases h5 : l = 114
  · exact Or.inr (Or.inr (Or.inr (Or.inr (Or.inl h5))))
  by_cases h6 : l = 115
  · exact Or.inr (Or.inr (Or.inr (Or.inr (Or.inr (Or.inl h6)))))
  by_cases h7 : l = 119
  · exact Or.inr (Or.inr (Or.inr (Or.inr (Or.inr (Or.inr h7)))))
  · rw [if_neg h1, if_neg h2, if_neg h3, if_neg h4, if_neg h5, if_neg h6, if_neg h7] at h
    exact absurd rfl h
/-- the third number of a command, or none -/
def third (N : Nat) (M : RM) (i k : Nat) : Option RM := if i = 1 then ((F_X9_behind N M (tsc i 3) 1).bind (fun r12 => some (stA r12.2 3 (nI (4 * k + 3)) r12.1))) else if i = 3 then ((F_X9_behind N M (tsc i 3) 2).bind (fun r7 => some (stA r7.2 3 (nI (4 * k + 3)) r7.1))) else some (stA M 3 (nI (4 * k + 3)) 0)
theorem r_147 {N k : Nat} {M : RM} {l : Int32} (hl : ¬ fIx l = 5) (hk : k ≤ 59) : D_X9_command_147 N M l (nI (4 * k)) (tsc (fIx l) 1) (nI (4 * k + 2)) = (F_X9_behind N M (tsc (fIx l) 1) 2).bind (fun r1 => third N (stA r1.2 3 (nI (4 * k + 2)) r1.1) (fIx l) k) := by
  have e3 : nI (4 * k) + (3 : Int32) = nI (4 * k + 3) := zI_add (4 * k) 3
  unfold D_X9_command_147
  congr 1
  funext r1
  rw [e3, if_pos (zI_inb (by omega) (by omega)), jlet_eq]
  simp only [if_pos (zI_inb (n := 4 * k + 3) (z := 244) (by omega) (by omega)), jlet_eq]
  rcases fIx_mem hl with h | h | h | h | h | h | h <;> subst h <;> rfl
theorem r_63 {N k p : Nat} {M : RM} {l : Int32} (hl : ¬ fIx l = 5) (hk : k ≤ 59) (h12 : M 0 12 = nI p) (h15 : M 0 15 = nI k) : D_X9_command_63 N M l (nI (4 * k)) = (F_X9_number N (stA (stF (stF M 12 (nI (p + 1))) 15 (nI (k + 1))) 3 (nI (4 * k)) l) 2).bind (fun r22 => D_X9_command_147 N (stA r22.2 3 (nI (4 * k + 1)) r22.1) l (nI (4 * k)) (tsc (fIx l) 1) (nI (4 * k + 2))) := by
  have e1 : nI (4 * k) + (1 : Int32) = nI (4 * k + 1) := zI_succ _
  have e2 : nI (4 * k) + (2 : Int32) = nI (4 * k + 2) := zI_add (4 * k) 2
  have e15 : stF M 12 (nI (p + 1)) 0 15 = nI k := (stF_o (by decide)).trans h15
  unfold D_X9_command_63
  rw [jlet_eq, h12, zI_succ, jlet_eq, e15, zI_succ, if_pos (zI_inb (by omega) (by omega)), jlet_eq]
  congr 1
  funext r22
  rw [e1, e2, if_pos (zI_inb (by omega) (by omega)), jlet_eq]
  rcases fIx_mem hl with h | h | h | h | h | h | h <;> subst h <;> rfl
/-- what the reference has read of a command, the k-th -/
def CmdR (s : Nat → Int32) (len i k : Nat) (l : Int32) (M M' : RM) (c : Bool × Nat × Int32 × Int32 × Int32) : Prop := NearX M M' ∧ (∀ y, y < 4 * k → M' 3 y = M 3 y) ∧ (c.1 = false → M' 0 13 = nI c.2.1 ∧ c.2.1 ≤ 200) ∧ (c.1 = true → RT M' s len c.2.1 ∧ M' 0 13 = -1 ∧ M' 0 15 = nI (k + 1) ∧ M' 3 (4 * k) = l ∧ M' 3 (4 * k + 1) = c.2.2.1 ∧ M' 3 (4 * k + 2) = c.2.2.2.1 ∧ ((i = 1 ∨ i = 3) → M' 3 (4 * k + 3) = c.2.2.2.2))
theorem sA_13 {M : RM} {i v : Int32} {x : Nat} : stA M 3 i v 0 x = M 0 x := by rw [sA_ne (by decide)]
/-- once it is wrong, it stays so -/
theorem r_third_F {N i k f : Nat} {M : RM} (hf : M 0 13 = nI f) (hfb : f ≤ 200) (hk : k ≤ 59) : ∃ M', third N M i k = some M' ∧ NearX M M' ∧ (∀ y, y < 4 * k → M' 3 y = M 3 y) ∧ M' 0 13 = nI f := by
  unfold third
  refine ⟨stA M 3 (nI (4 * k + 3)) 0, ?_, nearX_A, fun y hy => by rw [sA_3 (by omega), upd_ne (by omega)], sA_13.trans hf⟩
  rw [r_behF hf (by omega), Option.bind_some, r_behF hf (by omega), Option.bind_some]
  by_cases h1 : i = 1
  · rw [if_pos h1]
  · by_cases h3 : i = 3
    · rw [if_neg h1, if_pos h3]
    · rw [if_neg h1, if_neg h3]
theorem r_cmd {N : Nat} {M : RM} {s : Nat → Int32} {len k p : Nat} {l : Int32} (hN : 10 < N) (hl : ¬ fIx l = 5) (hk : k ≤ 59) (h : RT M s len p) (hp : p ≤ 100) (hf : M 0 13 = -1) (h15 : M 0 15 = nI k) : ∃ M', D_X9_command_63 N M l (nI (4 * k)) = some M' ∧ CmdR s len (fIx l) k l M M' (cmd s len (fIx l) p) := by
  have hle := fIx_le l
  have hsg : ∀ i, i < 5 → tsc i 1 ≠ 0 ∧ tsc i 1 ≠ -1 ∧ ((i = 1 ∨ i = 3) → tsc i 3 ≠ 0 ∧ tsc i 3 ≠ -1) := by decide +kernel
  obtain ⟨g10, g11, g3⟩ := hsg (fIx l) (by omega)
  rw [r_63 hl hk h.2.1 h15]
  simp only [r_147 hl hk]
  generalize fIx l = i at *
  generalize hM0 : stA (stF (stF M 12 (nI (p + 1))) 15 (nI (k + 1))) 3 (nI (4 * k)) l = M0
  have h0 : RT M0 s len (p + 1) := by rw [← hM0]; exact RT_A (RT_o (RT_12 h (by omega)) (by decide) (by decide))
  have f0 : M0 0 13 = -1 := by rw [← hM0, sA_13, stF_o (by decide), stF_o (by decide)]; exact hf
  have k0 : M0 0 15 = nI (k + 1) := by rw [← hM0, sA_13, stF_eq]
  have y0 : M0 3 (4 * k) = l := by rw [← hM0, sA_3 (by omega), upd_eq]
  have z0 : ∀ y, y < 4 * k → M0 3 y = M 3 y := fun y hy => by rw [← hM0, sA_3 (by omega), upd_ne (by omega), stF_ne (by decide), stF_ne (by decide)]
  have x0 : NearX M M0 := by rw [← hM0]; exact nearX_trans (nearX_trans (nearX_F (Or.inl rfl)) (nearX_F (Or.inr (Or.inr rfl)))) nearX_A
  clear hM0
  -- a fault behind which nothing more is read
  have wrong : ∀ (Mx : RM) (f y : Nat) (v : Int32), Mx 0 13 = nI f → f ≤ 200 → NearX M Mx → (∀ y, y < 4 * k → Mx 3 y = M 3 y) → 4 * k ≤ y → y ≤ 300 → ∃ M', third N (stA Mx 3 (nI y) v) i k = some M' ∧ NearX M M' ∧ (∀ y, y < 4 * k → M' 3 y = M 3 y) ∧ M' 0 13 = nI f := by
    intro Mx f y v e1 e2 e3 e4 e5 e6
    obtain ⟨M', t1, t2, t3, t4⟩ := r_third_F (N := N) (i := i) (k := k) (M := stA Mx 3 (nI y) v) (sA_13.trans e1) e2 hk
    exact ⟨M', t1, nearX_trans e3 (nearX_trans nearX_A t2), fun y' hy' => by rw [t3 y' hy', sA_3 (by omega), upd_ne (by omega)]; exact e4 y' hy', t4⟩
  unfold cmd
  by_cases h1 : jIn (cA s len (p + 1)) 48 57 = 0
  · have f1 : stA (stF M0 13 (nI (p + 1))) 3 (nI (4 * k + 1)) 0 0 13 = nI (p + 1) := sA_13.trans stF_eq
    rw [r_num0 h0 f0 h1, Option.bind_some, r_behF f1 (by omega), Option.bind_some, if_pos h1]
    obtain ⟨M', t1, t2, t3, t4⟩ := wrong (stA (stF M0 13 (nI (p + 1))) 3 (nI (4 * k + 1)) 0) (p + 1) (4 * k + 2) 0 f1 (by omega) (nearX_trans x0 (nearX_trans (nearX_F (Or.inr (Or.inl rfl))) nearX_A)) (fun y hy => by rw [sA_3 (by omega), upd_ne (by omega), stF_ne (by decide)]; exact z0 y hy) (by omega) (by omega)
    exact ⟨M', t1, t2, t3, fun _ => ⟨t4, (show p + 1 ≤ 200 by omega)⟩, fun q => absurd (show false = true from q) (by decide)⟩
  · obtain ⟨M1, a1, a2, a3, a4, a5, a6⟩ := r_num (N := N) (lg := true) (by omega) h0 (by omega) f0 h1
    have b1 := nE_bd s len true (p + 1)
    have a1 : F_X9_number N M0 2 = some (nV s len true (p + 1), M1) := a1
    rw [a1, Option.bind_some, if_neg h1]
    generalize nE s len true (p + 1) = e1 at a2 b1 ⊢
    generalize nV s len true (p + 1) = w0 at a1 ⊢
    have a22 : RT (stA M1 3 (nI (4 * k + 1)) w0) s len e1 := RT_A a2
    have a23 : stA M1 3 (nI (4 * k + 1)) w0 0 13 = -1 := sA_13.trans a3
    have z1 : ∀ y, y ≤ 4 * k → stA M1 3 (nI (4 * k + 1)) w0 3 y = M0 3 y := fun y hy => by rw [sA_3 (by omega), upd_ne (by omega), a5]
    have x1 : NearX M (stA M1 3 (nI (4 * k + 1)) w0) := nearX_trans x0 (nearX_trans a6 nearX_A)
    have k1 : stA M1 3 (nI (4 * k + 1)) w0 0 15 = nI (k + 1) := sA_13.trans (a4.trans k0)
    have y1 : stA M1 3 (nI (4 * k + 1)) w0 3 (4 * k + 1) = w0 := by rw [sA_3 (by omega), upd_eq]
    dsimp only
    generalize stA M1 3 (nI (4 * k + 1)) w0 = M2 at a22 a23 z1 x1 k1 y1 ⊢
    rw [r_beh a22 a23 g10 g11]
    by_cases h2 : cA s len e1 = tsc i 1
    · rw [if_pos h2, if_neg (fun q => q h2)]
      have a32 : RT (stF M2 12 (nI (e1 + 1))) s len (e1 + 1) := RT_12 a22 (by omega)
      have a33 : stF M2 12 (nI (e1 + 1)) 0 13 = -1 := (stF_o (by decide)).trans a23
      by_cases h3 : jIn (cA s len (e1 + 1)) 48 57 = 0
      · rw [r_num0 a32 a33 h3, Option.bind_some, Option.bind_some, if_pos h3]
        obtain ⟨M', t1, t2, t3, t4⟩ := wrong (stF (stF M2 12 (nI (e1 + 1))) 13 (nI (e1 + 1))) (e1 + 1) (4 * k + 2) 0 stF_eq (by omega) (nearX_trans x1 (nearX_trans (nearX_F (Or.inl rfl)) (nearX_F (Or.inr (Or.inl rfl))))) (fun y hy => by rw [stF_ne (by decide), stF_ne (by decide), z1 y (by omega)]; exact z0 y hy) (by omega) (by omega)
        exact ⟨M', t1, t2, t3, fun _ => ⟨t4, (show e1 + 1 ≤ 200 by omega)⟩, fun q => absurd (show false = true from q) (by decide)⟩
      · obtain ⟨M3, c1, c2, c3, c4, c5, c6⟩ := r_num (N := N) (lg := true) (by omega) a32 (by omega) a33 h3
        have b2 := nE_bd s len true (e1 + 1)
        have c1 : F_X9_number N (stF M2 12 (nI (e1 + 1))) 2 = some (nV s len true (e1 + 1), M3) := c1
        rw [c1, Option.bind_some, Option.bind_some, if_neg h3]
        generalize nE s len true (e1 + 1) = e2 at c2 b2 ⊢
        generalize nV s len true (e1 + 1) = w1 at c1 ⊢
        dsimp only
        have c22 : RT (stA M3 3 (nI (4 * k + 2)) w1) s len e2 := RT_A c2
        have c23 : stA M3 3 (nI (4 * k + 2)) w1 0 13 = -1 := sA_13.trans c3
        have z2 : ∀ y, y ≤ 4 * k + 1 → stA M3 3 (nI (4 * k + 2)) w1 3 y = M2 3 y := fun y hy => by rw [sA_3 (by omega), upd_ne (by omega), c5, stF_ne (by decide)]
        have x2 : NearX M (stA M3 3 (nI (4 * k + 2)) w1) := nearX_trans x1 (nearX_trans (nearX_F (Or.inl rfl)) (nearX_trans c6 nearX_A))
        have k2 : stA M3 3 (nI (4 * k + 2)) w1 0 15 = nI (k + 1) := sA_13.trans (c4.trans ((stF_o (by decide)).trans k1))
        have y2 : stA M3 3 (nI (4 * k + 2)) w1 3 (4 * k + 2) = w1 := by rw [sA_3 (by omega), upd_eq]
        generalize stA M3 3 (nI (4 * k + 2)) w1 = M4 at c22 c23 z2 x2 k2 y2 ⊢
        have zA : ∀ y, y < 4 * k → M4 3 y = M 3 y := fun y hy => by rw [z2 y (by omega), z1 y (by omega)]; exact z0 y hy
        have l4 : M4 3 (4 * k) = l := by rw [z2 _ (by omega), z1 _ (by omega)]; exact y0
        have w4 : M4 3 (4 * k + 1) = w0 := by rw [z2 _ (by omega)]; exact y1
        by_cases h13 : i = 1 ∨ i = 3
        · rw [if_pos h13]
          obtain ⟨q0, q1⟩ := g3 h13
          -- the third number
          have hth : third N M4 i k = (F_X9_behind N M4 (tsc i 3) (if (decide (i = 3)) = true then 2 else 1)).bind (fun r => some (stA r.2 3 (nI (4 * k + 3)) r.1)) := by
            unfold third
            by_cases hi1 : i = 1
            · have hi3 : ¬ i = 3 := by omega
              rw [if_pos hi1, decide_eq_false hi3, if_neg (show ¬ false = true by decide)]
            · have hi3 : i = 3 := h13.resolve_left hi1
              rw [if_neg hi1, if_pos hi3, decide_eq_true hi3, if_pos rfl]
          rw [hth, r_beh c22 c23 q0 q1]
          by_cases h4 : cA s len e2 = tsc i 3
          · have d32 : RT (stF M4 12 (nI (e2 + 1))) s len (e2 + 1) := RT_12 c22 (by omega)
            have d33 : stF M4 12 (nI (e2 + 1)) 0 13 = -1 := (stF_o (by decide)).trans c23
            rw [if_pos h4, if_neg (show ¬ ¬ cA s len e2 = tsc i 3 from fun q => q h4)]
            by_cases h5 : jIn (cA s len (e2 + 1)) 48 57 = 0
            · rw [r_num0 d32 d33 h5, Option.bind_some, Option.bind_some, if_pos h5]
              refine ⟨stA (stF (stF M4 12 (nI (e2 + 1))) 13 (nI (e2 + 1))) 3 (nI (4 * k + 3)) 0, rfl, nearX_trans x2 (nearX_trans (nearX_F (Or.inl rfl)) (nearX_trans (nearX_F (Or.inr (Or.inl rfl))) nearX_A)), fun y hy => ?_, fun _ => ⟨sA_13.trans stF_eq, (show e2 + 1 ≤ 200 by omega)⟩, fun q => absurd (show false = true from q) (by decide)⟩
              rw [sA_3 (by omega), upd_ne (by omega), stF_ne (by decide), stF_ne (by decide)]
              exact zA y hy
            · obtain ⟨M5, j1, j2, j3, j4, j5, j6⟩ := r_num (N := N) (lg := decide (i = 3)) (by omega) d32 (by omega) d33 h5
              rw [j1, Option.bind_some, Option.bind_some, if_neg h5]
              have zB : ∀ y, y ≤ 4 * k + 2 → stA M5 3 (nI (4 * k + 3)) (nV s len (decide (i = 3)) (e2 + 1)) 3 y = M4 3 y := fun y hy => by rw [sA_3 (by omega), upd_ne (by omega), j5, stF_ne (by decide)]
              refine ⟨stA M5 3 (nI (4 * k + 3)) (nV s len (decide (i = 3)) (e2 + 1)), rfl, nearX_trans x2 (nearX_trans (nearX_F (Or.inl rfl)) (nearX_trans j6 nearX_A)), fun y hy => by rw [zB y (by omega)]; exact zA y hy, fun q => absurd (show true = false from q) (by decide), fun _ => ⟨RT_A j2, sA_13.trans j3, sA_13.trans (j4.trans ((stF_o (by decide)).trans k2)), (zB _ (by omega)).trans l4, (zB _ (by omega)).trans w4, (zB _ (by omega)).trans y2, fun _ => ?_⟩⟩
              rw [sA_3 (by omega), upd_eq]
          · rw [if_neg h4, Option.bind_some, if_pos h4]
            refine ⟨stA (stF M4 13 (nI e2)) 3 (nI (4 * k + 3)) 0, rfl, nearX_trans x2 (nearX_trans (nearX_F (Or.inr (Or.inl rfl))) nearX_A), fun y hy => ?_, fun _ => ⟨sA_13.trans stF_eq, (show e2 ≤ 200 by omega)⟩, fun q => absurd (show false = true from q) (by decide)⟩
            rw [sA_3 (by omega), upd_ne (by omega), stF_ne (by decide)]
            exact zA y hy
        · have hth : third N M4 i k = some (stA M4 3 (nI (4 * k + 3)) 0) := by
            unfold third
            rw [if_neg (fun e => h13 (Or.inl e)), if_neg (fun e => h13 (Or.inr e))]
          have zB : ∀ y, y ≤ 4 * k + 2 → stA M4 3 (nI (4 * k + 3)) 0 3 y = M4 3 y := fun y hy => by rw [sA_3 (by omega), upd_ne (by omega)]
          rw [if_neg h13, hth]
          exact ⟨stA M4 3 (nI (4 * k + 3)) 0, rfl, nearX_trans x2 nearX_A, fun y hy => by rw [zB y (by omega)]; exact zA y hy, fun q => absurd (show true = false from q) (by decide), fun _ => ⟨RT_A c22, sA_13.trans c23, sA_13.trans k2, (zB _ (by omega)).trans l4, (zB _ (by omega)).trans w4, (zB _ (by omega)).trans y2, fun q => absurd q h13⟩⟩
    · rw [if_neg h2, Option.bind_some, if_pos h2]
      obtain ⟨M', t1, t2, t3, t4⟩ := wrong (stF M2 13 (nI e1)) e1 (4 * k + 2) 0 stF_eq (by omega) (nearX_trans x1 (nearX_F (Or.inr (Or.inl rfl)))) (fun y hy => by rw [stF_ne (by decide), z1 y (by omega)]; exact z0 y hy) (by omega) (by omega)
      exact ⟨M', t1, t2, t3, fun _ => ⟨t4, (show e1 ≤ 200 by omega)⟩, fun q => absurd (show false = true from q) (by decide)⟩
theorem r_command {N : Nat} {M : RM} {s : Nat → Int32} {len k p : Nat} (hN : 10 < N) (hk : k ≤ 59) (h : RT M s len p) (hp : p ≤ 100) (hf : M 0 13 = -1) (h15 : M 0 15 = nI k) : ∃ M', F_X9_command N M = some M' ∧ CmdR s len (fIx (cA s len p)) k (cA s len p) M M' (cmdAt s len p) := by
  have e4 : (4 : Int32) * nI k = nI (4 * k) := zI_mul 4 k
  unfold F_X9_command cmdAt
  rw [r_here h, Option.bind_some, h15, e4]
  by_cases h5 : fIx (cA s len p) = 5
  · have hno : ∀ c : Int32, ¬ fIx c = 5 → ¬ cB s len p = c := fun c hc e => by
      have h0 : c ≠ 0 := fun q => hc (by rw [q]; decide)
      have h1 : c ≠ -1 := fun q => hc (by rw [q]; decide)
      rw [(cAB_sg h0 h1).mp e] at h5
      exact hc h5
    rw [if_neg (hno 115 (by decide)), if_neg (hno 114 (by decide)), if_neg (hno 119 (by decide)), if_neg (hno 104 (by decide)), if_neg (hno 108 (by decide)), if_neg (hno 101 (by decide)), if_neg (hno 109 (by decide)), jlet_eq, h.2.1, if_pos h5]
    exact ⟨_, rfl, nearX_F (Or.inr (Or.inl rfl)), fun y _ => by rw [stF_ne (by decide)], fun _ => ⟨stF_eq, (show p ≤ 200 by omega)⟩, fun q => absurd (show false = true from q) (by decide)⟩
  · have hAB : cB s len p = cA s len p := cAB_eq (cA_lt (fun q => h5 (by rw [q]; decide)))
    rw [hAB, if_neg h5]
    obtain ⟨M', g1, g2⟩ := r_cmd (N := N) (l := cA s len p) hN h5 hk h hp hf h15
    refine ⟨M', ?_, g2⟩
    rw [← g1]
    rcases fIx_mem h5 with e | e | e | e | e | e | e <;> rw [e] <;> rfl
