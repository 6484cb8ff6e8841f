/-! the whole text, read on both sides -/
/-- where the k-th command begins -/
def psn (s : Nat → Int32) (len : Nat) : Nat → Nat
  | 0 => 0
  | k + 1 => (cmdAt s len (psn s len k)).2.1 + 1
theorem cmd_adv {s : Nat → Int32} {len p : Nat} (h : (cmdAt s len p).1 = true) : p < len ∧ p + 2 ≤ (cmdAt s len p).2.1 := by
  unfold cmdAt at *
  by_cases h5 : fIx (cA s len p) = 5
  · rw [if_pos h5] at h; exact absurd (show false = true from h) (by decide)
  · rw [if_neg h5] at h ⊢
    refine ⟨cA_lt (fun q => h5 (by rw [q]; decide)), ?_⟩
    generalize fIx (cA s len p) = i at h ⊢
    have b1 := nE_bd s len true (p + 1)
    have b2 := nE_bd s len true (nE s len true (p + 1) + 1)
    have b3 := nE_bd s len (decide (i = 3)) (nE s len true (nE s len true (p + 1) + 1) + 1)
    unfold cmd at *
    by_cases h1 : jIn (cA s len (p + 1)) 48 57 = 0
    · rw [if_pos h1] at h; exact absurd (show false = true from h) (by decide)
    · rw [if_neg h1] at h ⊢
      by_cases h2 : ¬ cA s len (nE s len true (p + 1)) = tsc i 1
      · rw [if_pos h2] at h; exact absurd (show false = true from h) (by decide)
      · rw [if_neg h2] at h ⊢
        by_cases h3 : jIn (cA s len (nE s len true (p + 1) + 1)) 48 57 = 0
        · rw [if_pos h3] at h; exact absurd (show false = true from h) (by decide)
        · rw [if_neg h3] at h ⊢
          by_cases h13 : i = 1 ∨ i = 3
          · rw [if_pos h13] at h ⊢
            by_cases h4 : ¬ cA s len (nE s len true (nE s len true (p + 1) + 1)) = tsc i 3
            · rw [if_pos h4] at h; exact absurd (show false = true from h) (by decide)
            · rw [if_neg h4] at h ⊢
              by_cases h5 : jIn (cA s len (nE s len true (nE s len true (p + 1) + 1) + 1)) 48 57 = 0
              · rw [if_pos h5] at h; exact absurd (show false = true from h) (by decide)
              · rw [if_neg h5]
                show p + 2 ≤ nE s len (decide (i = 3)) (nE s len true (nE s len true (p + 1) + 1) + 1)
                omega
          · rw [if_neg h13]
            show p + 2 ≤ nE s len true (nE s len true (p + 1) + 1)
            omega
/-- the k-th command stands in the reference's row -/
def Ent (s : Nat → Int32) (len : Nat) (M : RM) (j : Nat) : Prop := M 3 (4 * j) = cA s len (psn s len j) ∧ M 3 (4 * j + 1) = (cmdAt s len (psn s len j)).2.2.1 ∧ M 3 (4 * j + 2) = (cmdAt s len (psn s len j)).2.2.2.1 ∧ ((fIx (cA s len (psn s len j)) = 1 ∨ fIx (cA s len (psn s len j)) = 3) → M 3 (4 * j + 3) = (cmdAt s len (psn s len j)).2.2.2.2)
/-- the commands of a text -/
def Txt (s : Nat → Int32) (len n : Nat) : Prop := 1 ≤ n ∧ n ≤ 30 ∧ (∀ j, j < n → (cmdAt s len (psn s len j)).1 = true ∧ psn s len j ≤ 60) ∧ (∀ j, j + 1 < n → cA s len (cmdAt s len (psn s len j)).2.1 = 59) ∧ len ≤ (cmdAt s len (psn s len (n - 1))).2.1
theorem parse {s : Nat → Int32} {len : Nat} : ∀ (d k n1 n2 : Nat) (T M : RM), 61 ≤ psn s len k + d → psn s len k ≤ 60 → d < n1 → d < n2 → 2 * k ≤ psn s len k → IT T s len (psn s len k) → RT M s len (psn s len k) → M 0 13 = -1 → M 0 15 = nI k → (∀ j, j < k → Ent s len M j) → (∀ j, j < k → (cmdAt s len (psn s len j)).1 = true ∧ psn s len j ≤ 60 ∧ cA s len (cmdAt s len (psn s len j)).2.1 = 59) →
    ∃ T' M' : RM, NearI T T' ∧ NearX M M' ∧ (F_X9_command 3000 M).bind (fun r => D_X9_read_19 3000 n2 r) = D_X9_read_78 3000 M' ∧ ((∃ f, f ≤ 200 ∧ D_X1_findFault_6 3000 n1 T (nI k) = some (nI f, T') ∧ M' 0 13 = nI f) ∨ ∃ n, D_X1_findFault_6 3000 n1 T (nI k) = some (-1, T') ∧ M' 0 13 = -1 ∧ M' 0 15 = nI n ∧ Txt s len n ∧ ∀ j, j < n → Ent s len M' j) := by
  intro d
  induction d with
  | zero =>
    intro k n1 n2 T M hd hp60 h1 h2 hk hI
    exfalso
    omega
  | succ d ih =>
    intro k n1 n2 T M hd hp60 h1 h2 hk hI hR hf h15 hE hP
    obtain ⟨n1, rfl⟩ : ∃ x, n1 = x + 1 := ⟨n1 - 1, by omega⟩
    obtain ⟨n2, rfl⟩ : ∃ x, n2 = x + 1 := ⟨n2 - 1, by omega⟩
    have h60 : ¬ (60 : Int32) ≤ nI k := ile_f (a := 60) (by omega) (by omega)
    have hl60 := hI.2.2.2.1
    obtain ⟨r, T1, c1, c2, c3, c4, c5, c6⟩ := c_takeC (N := 3000) (by omega) hI (by omega)
    obtain ⟨M1, r1, r2, r3, r4, r5⟩ := r_command (N := 3000) (k := k) (by omega) (by omega) hR (by omega) hf h15
    have hadv := fun q => cmd_adv (s := s) (len := len) (p := psn s len k) q
    rw [r1, Option.bind_some]
    have hstep : D_X1_findFault_6 3000 (n1 + 1) T (nI k) = if r = 0 then some (T1 0 6, T1) else if T1 0 6 < T1 0 5 then (F_X1_takeSign 3000 T1 59).bind (fun r2 => if r2.1 = 0 then some (r2.2 0 6, r2.2) else D_X1_findFault_6 3000 n1 r2.2 (nI k + 1)) else some (-1, T1) := by
      rw [D_X1_findFault_6, if_neg h60, c1, Option.bind_some]
    have hEnt : (cmdAt s len (psn s len k)).1 = true → ∀ j, j < k + 1 → Ent s len M1 j := fun hok j hj => by
      obtain ⟨-, -, -, g1, g2, g3, g4⟩ := r5 hok
      by_cases hjk : j = k
      · subst hjk
        exact ⟨g1, g2, g3, g4⟩
      · obtain ⟨e1, e2, e3, e4⟩ := hE j (by omega)
        exact ⟨(r3 _ (by omega)).trans e1, (r3 _ (by omega)).trans e2, (r3 _ (by omega)).trans e3, fun q => (r3 _ (by omega)).trans (e4 q)⟩
    cases hok : (cmdAt s len (psn s len k)).1 with
    | false =>
      obtain ⟨f1, f2⟩ := r4 hok
      rw [hok, if_neg (show ¬ false = true by decide)] at c2
      refine ⟨T1, M1, c5, r2, ?_, Or.inl ⟨(cmdAt s len (psn s len k)).2.1, f2, ?_, f1⟩⟩
      · rw [D_X9_read_19, f1, if_pos (zI_pos (by omega))]
        unfold D_X9_read_52
        rw [f1, if_pos (zI_pos (by omega))]
      · rw [hstep, c2, if_pos rfl, c3.2.1]
    | true =>
      obtain ⟨g0, g1, g2, -⟩ := r5 hok
      obtain ⟨a1, a2⟩ := hadv hok
      have hEn := hEnt hok
      rw [hok, if_pos rfl] at c2
      have hneg : ¬ (0 : Int32) ≤ -1 := by decide
      have hps : psn s len (k + 1) = (cmdAt s len (psn s len k)).2.1 + 1 := rfl
      rw [c2, if_neg (show ¬ (1 : Int32) = 0 by decide), c3.2.1, c3.1, c_sign c3] at hstep
      rw [hstep, D_X9_read_19, g1, if_neg hneg, r_here g0, Option.bind_some, g0.2.1, jlet_eq, zI_succ]
      have hne59 : (59 : Int32) ≠ 0 ∧ (59 : Int32) ≠ -1 := by decide
      by_cases h59 : cA s len (cmdAt s len (psn s len k)).2.1 = 59
      · have hlt : (cmdAt s len (psn s len k)).2.1 < len := cA_lt (by rw [h59]; decide)
        rw [if_pos ((zI_lt (by omega) (by omega)).mpr hlt), if_pos h59, Option.bind_some, if_neg (show ¬ (1 : Int32) = 0 by decide), if_pos ((cAB_sg hne59.1 hne59.2).mpr h59), zI_succ]
        have hI2 := IT_6 c3 (show (cmdAt s len (psn s len k)).2.1 + 1 ≤ 200 by omega)
        have hR2 := RT_12 g0 (show (cmdAt s len (psn s len k)).2.1 + 1 ≤ 200 by omega)
        rw [← hps] at hI2 hR2 ⊢
        obtain ⟨T', M', k1, k2, k3, k4⟩ := ih (k + 1) n1 n2 (stF T1 6 (nI (psn s len (k + 1)))) (stF M1 12 (nI (psn s len (k + 1)))) (by rw [hps]; omega) (by rw [hps]; omega) (by omega) (by omega) (by rw [hps]; omega) hI2 hR2 ((stF_o (by decide)).trans g1) ((stF_o (by decide)).trans g2) (fun j hj => by
          obtain ⟨e1, e2, e3, e4⟩ := hEn j hj
          have e3r : stF M1 12 (nI (psn s len (k + 1))) 3 = M1 3 := stF_ne (by decide)
          unfold Ent
          rw [e3r]
          exact ⟨e1, e2, e3, e4⟩) (fun j hj => by
          by_cases hjk : j = k
          · rw [hjk]; exact ⟨hok, by omega, h59⟩
          · exact hP j (by omega))
        exact ⟨T', M', nearI_trans c5 (nearI_trans (nearI_F (Or.inl rfl)) k1), nearX_trans r2 (nearX_trans (nearX_F (Or.inl rfl)) k2), k3, k4⟩
      · rw [if_neg (fun q => h59 ((cAB_sg hne59.1 hne59.2).mp q))]
        unfold D_X9_read_52
        rw [g1, if_neg hneg, g0.1, g0.2.1, jlet_eq]
        by_cases hlt : (cmdAt s len (psn s len k)).2.1 < len
        · rw [if_pos ((zI_lt (by omega) (by omega)).mpr hlt), if_neg h59, Option.bind_some, if_pos rfl, if_neg (ile_f hlt (by omega))]
          dsimp only
          rw [c3.2.1]
          exact ⟨T1, stF M1 13 (nI (cmdAt s len (psn s len k)).2.1), c5, nearX_trans r2 (nearX_F (Or.inr (Or.inl rfl))), rfl, Or.inl ⟨(cmdAt s len (psn s len k)).2.1, by omega, rfl, stF_eq⟩⟩
        · rw [if_neg (fun q => hlt ((zI_lt (by have := g0.2.2.2.2; omega) (by omega)).mp q)), if_pos (ile_t (by omega) (by have := g0.2.2.2.2; omega))]
          refine ⟨T1, M1, c5, r2, rfl, Or.inr ⟨k + 1, rfl, g1, g2, ⟨by omega, by omega, fun j hj => ?_, fun j hj => ?_, ?_⟩, hEn⟩⟩
          · by_cases hjk : j = k
            · rw [hjk]; exact ⟨hok, by omega⟩
            · exact ⟨(hP j (by omega)).1, (hP j (by omega)).2.1⟩
          · exact (hP j (by omega)).2.2
          · show len ≤ (cmdAt s len (psn s len k)).2.1
            omega
