/-! the commands of a text, carried out one after another -/
theorem frE_trans {M M' M'' : RM} (h : FrE M M') (h2 : FrE M' M'') : FrE M M'' := ⟨fun r a b => (h2.1 r a b).trans (h.1 r a b), fun x a b c d e => (h2.2.1 x a b c d e).trans (h.2.1 x a b c d e), fun b k h1 h8 hk => (h2.2.2 b k h1 h8 hk).trans (h.2.2 b k h1 h8 hk)⟩
theorem doC {S : CS} {M : RM} {s : Nat → Int32} {len k : Nat} (hk : k < 30) (hR : RSea (S 0) (blk M 0)) (hE : Ent s len M k) (hok : (cmdAt s len (psn s len k)).1 = true) (h0 : S 9 2 0 = (cmdAt s len (psn s len k)).2.2.1) (h1 : S 9 2 1 = (cmdAt s len (psn s len k)).2.2.2.1) (h2 : (fIx (cA s len (psn s len k)) = 1 ∨ fIx (cA s len (psn s len k)) = 3) → S 9 2 2 = (cmdAt s len (psn s len k)).2.2.2.2) : ∃ K rc rm, F_X8_runCommand 3000 S (cA s len (psn s len k)) = some (rc.1, u1 S 0 rc.2) ∧ F_X9_does 3000 M (4 * nI k) = some rm ∧ OpR RSea K (S 0) M rc rm := by
  have hl : ¬ fIx (cA s len (psn s len k)) = 5 := fun q => by
    unfold cmdAt at hok
    rw [if_pos q] at hok
    exact absurd (show false = true from hok) (by decide)
  obtain ⟨e1, e2, e3, e4⟩ := hE
  generalize cA s len (psn s len k) = l at *
  generalize (cmdAt s len (psn s len k)).2.2.1 = a at *
  generalize (cmdAt s len (psn s len k)).2.2.2.1 = b at *
  generalize (cmdAt s len (psn s len k)).2.2.2.2 = c at *
  have r0 : rg 3 (S 9 2) 0 = a := (zI_rg (k := 0) (by decide) (by decide)).trans h0
  have r1 : rg 3 (S 9 2) 1 = b := (zI_rg (k := 1) (by decide) (by decide)).trans h1
  have r2 : (fIx l = 1 ∨ fIx l = 3) → rg 3 (S 9 2) 2 = c := fun q => (zI_rg (k := 2) (by decide) (by decide)).trans (h2 q)
  have m4 : (4 : Int32) * nI k = nI (4 * k) := zI_mul 4 k
  have i0 : inb ((4 : Int32) * nI k) 244 = true := by rw [m4]; exact zI_inb (by omega) (by omega)
  have i1 : inb ((4 : Int32) * nI k + 1) 244 = true := by rw [m4, zI_succ]; exact zI_inb (by omega) (by omega)
  have m2 : (4 : Int32) * nI k + 2 = nI (4 * k + 2) := by rw [m4]; exact zI_add (4 * k) 2
  have m3 : (4 : Int32) * nI k + 3 = nI (4 * k + 3) := by rw [m4]; exact zI_add (4 * k) 3
  have i2 : inb ((4 : Int32) * nI k + 2) 244 = true := by rw [m2]; exact zI_inb (by omega) (by omega)
  have i3 : inb ((4 : Int32) * nI k + 3) 244 = true := by rw [m3]; exact zI_inb (by omega) (by omega)
  have f0 : M 3 ((4 : Int32) * nI k).toNatClampNeg = l := by rw [m4, zI_nat (by omega)]; exact e1
  have f1 : M 3 ((4 : Int32) * nI k + 1).toNatClampNeg = a := by rw [m4, zI_succ, zI_nat (by omega)]; exact e2
  have f2 : M 3 ((4 : Int32) * nI k + 2).toNatClampNeg = b := by rw [m2, zI_nat (by omega)]; exact e3
  have f3 : (fIx l = 1 ∨ fIx l = 3) → M 3 ((4 : Int32) * nI k + 3).toNatClampNeg = c := fun q => by rw [m3, zI_nat (by omega)]; exact e4 q
  unfold F_X8_runCommand F_X9_does
  rw [if_pos i1, if_pos i2, if_pos i0, f0, f1, f2, r0, r1, if_pos i3, if_pos i3]
  rcases fIx_mem hl with h | h | h | h | h | h | h
  · obtain ⟨rc, rm, g1, g2, g3⟩ := jo_exchange (S 0) M hR a b c
    subst h
    have q2 := r2 (by decide)
    have q3 := f3 (by decide)
    rw [q2, q3, if_pos rfl, if_pos rfl, g1, g2]
    exact ⟨_, rc, rm, rfl, rfl, g3⟩
  · obtain ⟨rc, rm, g1, g2, g3⟩ := jo_hold (S 0) M hR a b
    subst h
    rw [if_neg (show ¬ (104 : Int32) = 101 by decide), if_neg (show ¬ (104 : Int32) = 101 by decide), if_pos rfl, if_pos rfl, g1, g2]
    exact ⟨_, rc, rm, rfl, rfl, g3⟩
  · obtain ⟨rc, rm, g1, g2, g3⟩ := jo_release (S 0) M hR a b
    subst h
    rw [if_neg (show ¬ (108 : Int32) = 101 by decide), if_neg (show ¬ (108 : Int32) = 101 by decide), if_neg (show ¬ (108 : Int32) = 104 by decide), if_neg (show ¬ (108 : Int32) = 104 by decide), if_pos rfl, if_pos rfl, g1, g2]
    exact ⟨_, rc, rm, rfl, rfl, g3⟩
  · obtain ⟨rc, rm, g1, g2, g3⟩ := jo_move (S 0) M hR a b
    subst h
    rw [if_neg (show ¬ (109 : Int32) = 101 by decide), if_neg (show ¬ (109 : Int32) = 101 by decide), if_neg (show ¬ (109 : Int32) = 104 by decide), if_neg (show ¬ (109 : Int32) = 104 by decide), if_neg (show ¬ (109 : Int32) = 108 by decide), if_neg (show ¬ (109 : Int32) = 108 by decide), if_neg (show ¬ (109 : Int32) = 114 by decide), if_neg (show ¬ (109 : Int32) = 114 by decide), if_neg (show ¬ (109 : Int32) = 115 by decide), if_neg (show ¬ (109 : Int32) = 115 by decide), if_neg (show ¬ (109 : Int32) = 119 by decide), if_neg (show ¬ (109 : Int32) = 119 by decide), g1, g2]
    exact ⟨_, rc, rm, rfl, rfl, g3⟩
  · obtain ⟨rc, rm, g1, g2, g3⟩ := jo_refund (S 0) M hR a b
    subst h
    rw [if_neg (show ¬ (114 : Int32) = 101 by decide), if_neg (show ¬ (114 : Int32) = 101 by decide), if_neg (show ¬ (114 : Int32) = 104 by decide), if_neg (show ¬ (114 : Int32) = 104 by decide), if_neg (show ¬ (114 : Int32) = 108 by decide), if_neg (show ¬ (114 : Int32) = 108 by decide), if_pos rfl, if_pos rfl, g1, g2]
    exact ⟨_, rc, rm, rfl, rfl, g3⟩
  · obtain ⟨rc, rm, g1, g2, g3⟩ := jo_sell (S 0) M hR a b
    subst h
    rw [if_neg (show ¬ (115 : Int32) = 101 by decide), if_neg (show ¬ (115 : Int32) = 101 by decide), if_neg (show ¬ (115 : Int32) = 104 by decide), if_neg (show ¬ (115 : Int32) = 104 by decide), if_neg (show ¬ (115 : Int32) = 108 by decide), if_neg (show ¬ (115 : Int32) = 108 by decide), if_neg (show ¬ (115 : Int32) = 114 by decide), if_neg (show ¬ (115 : Int32) = 114 by decide), if_pos rfl, if_pos rfl, g1, g2]
    exact ⟨_, rc, rm, rfl, rfl, g3⟩
  · obtain ⟨rc, rm, g1, g2, g3⟩ := jo_request (S 0) M hR a b c
    subst h
    have q2 := r2 (by decide)
    have q3 := f3 (by decide)
    rw [q2, q3, if_neg (show ¬ (119 : Int32) = 101 by decide), if_neg (show ¬ (119 : Int32) = 101 by decide), if_neg (show ¬ (119 : Int32) = 104 by decide), if_neg (show ¬ (119 : Int32) = 104 by decide), if_neg (show ¬ (119 : Int32) = 108 by decide), if_neg (show ¬ (119 : Int32) = 108 by decide), if_neg (show ¬ (119 : Int32) = 114 by decide), if_neg (show ¬ (119 : Int32) = 114 by decide), if_neg (show ¬ (119 : Int32) = 115 by decide), if_neg (show ¬ (119 : Int32) = 115 by decide), if_pos rfl, if_pos rfl, g1, g2]
    exact ⟨_, rc, rm, rfl, rfl, g3⟩
/-- where the reader stands before the k-th command of n -/
def At (s : Nat → Int32) (len n k : Nat) (T : RM) : Prop := (k < n → IT T s len (psn s len k)) ∧ (k = n → IT T s len (cmdAt s len (psn s len (n - 1))).2.1)
/-- the next command is taken -/
theorem c_next {s : Nat → Int32} {len n k : Nat} {T : RM} (hX : Txt s len n) (hk : k < n) (hI : IT T s len (psn s len k)) : ∃ T2, F_X1_takeNext 3000 T = some (1, T2) ∧ NearI T T2 ∧ At s len n (k + 1) T2 ∧ T2 0 7 = cA s len (psn s len k) ∧ T2 2 0 = (cmdAt s len (psn s len k)).2.2.1 ∧ T2 2 1 = (cmdAt s len (psn s len k)).2.2.2.1 ∧ ((fIx (cA s len (psn s len k)) = 1 ∨ fIx (cA s len (psn s len k)) = 3) → T2 2 2 = (cmdAt s len (psn s len k)).2.2.2.2) := by
  obtain ⟨n1, n30, hc, hs, he⟩ := hX
  obtain ⟨hok, h60⟩ := hc k hk
  obtain ⟨a1, a2⟩ := cmd_adv hok
  have hl60 := hI.2.2.2.1
  obtain ⟨r, T1, c1, c2, c3, c4, c5, c6⟩ := c_takeC (N := 3000) (by omega) hI (by omega)
  rw [hok, if_pos rfl] at c2
  obtain ⟨d0, d1, d2⟩ := c6 hok
  have hu : F_X1_takeNext 3000 T = (F_X1_takeSign 3000 T1 59).bind (fun r2 => if isB r = true then some (r, r2.2) else none) := by
    unfold F_X1_takeNext
    rw [hI.1, hI.2.1, if_pos ((zI_lt (by omega) (by omega)).mpr a1), c1, Option.bind_some]
  rw [hu, c2, c_sign c3]
  by_cases hkn : k + 1 < n
  · rw [if_pos (hs k hkn), Option.bind_some, if_pos (by decide)]
    have hlt : (cmdAt s len (psn s len k)).2.1 < len := cA_lt (by rw [hs k hkn]; decide)
    exact ⟨stF T1 6 (nI ((cmdAt s len (psn s len k)).2.1 + 1)), rfl, nearI_trans c5 (nearI_F (Or.inl rfl)), ⟨fun _ => IT_6 c3 (by omega), fun q => absurd q (by omega)⟩, (stF_o (by decide)).trans c4, d0, d1, d2⟩
  · obtain rfl : n = k + 1 := by omega
    have h59 : ¬ cA s len (cmdAt s len (psn s len k)).2.1 = 59 := fun q => by
      have hlt := cA_lt (s := s) (len := len) (i := (cmdAt s len (psn s len k)).2.1) (by rw [q]; decide)
      have he' : len ≤ (cmdAt s len (psn s len k)).2.1 := he
      omega
    rw [if_neg h59, Option.bind_some, if_pos (by decide)]
    exact ⟨T1, rfl, c5, ⟨fun q => absurd q (by omega), fun _ => c3⟩, c4, d0, d1, d2⟩
theorem runs {s : Nat → Int32} {len n : Nat} (hX : Txt s len n) : ∀ (d k n1 n2 : Nat) (S : CS) (M : RM), k + d = n → d < n1 → d < n2 → RSea (S 0) (blk M 0) → At s len n k (S 9) → M 0 15 = nI n → (∀ j, j < n → Ent s len M j) →
    ∃ (v : Int32) (S' : CS) (M' : RM), D_X8_runCommands_9 3000 n1 S (nI k) = some (v, S') ∧ (∀ j, j ≠ 0 → j ≠ 9 → S' j = S j) ∧ NearI (S 9) (S' 9) ∧ FrE M M' ∧
      ((v = nI n ∧ D_X9_read_122 3000 n2 M (nI k) = (F_X9_keeps 3000 M').bind (fun r1 => some (r1 0 15, r1)) ∧ RSea (S' 0) (blk M' 0) ∧ M' 0 4 = M 0 4 ∧ M' 0 5 = M 0 5) ∨
       (v < 0 ∧ D_X9_read_122 3000 n2 M (nI k) = (F_X9_copies 3000 M' 8 0).bind (fun r3 => jlet (stF r3 0 2) (fun M4 => some (0, M4))) ∧
        (((v = -1 ∨ v = -2 ∨ v = -3) ∧ M' 0 4 = M 0 4 ∧ M' 0 5 = M 0 5) ∨ ∃ a d : Nat, 1 ≤ a ∧ a ≤ 9 ∧ d < 1000 ∧ v = jRef (nI a) (nI d) ∧ M' 0 4 = nI a ∧ M' 0 5 = nI d))) := by
  have hX' := hX
  obtain ⟨n1', n30, hc, -, he⟩ := hX'
  intro d
  induction d with
  | zero =>
    intro k n1 n2 S M hkd h1 h2 hR hA h15 hE
    obtain ⟨n1, rfl⟩ : ∃ x, n1 = x + 1 := ⟨n1 - 1, by omega⟩
    obtain ⟨n2, rfl⟩ : ∃ x, n2 = x + 1 := ⟨n2 - 1, by omega⟩
    obtain rfl : k = n := by omega
    have hI := hA.2 rfl
    have h60 : ¬ (60 : Int32) ≤ nI k := ile_f (a := 60) (by omega) (by omega)
    have hl60 := hI.2.2.2.1
    have hp := hI.2.2.2.2.1
    have hS9 : u1 S 9 (mgX1 (S 9) (S 9)) = S := by rw [mg1_id (fun _ _ _ _ => rfl) (fun _ _ _ _ => rfl), u1_id]
    have ht : F_X1_takeNext 3000 (S 9) = some (0, S 9) := by
      unfold F_X1_takeNext
      rw [hI.1, hI.2.1, if_neg (fun q => absurd ((zI_lt (by omega) (by omega)).mp q) (by omega))]
    refine ⟨nI k, S, M, ?_, fun _ _ _ => rfl, nearI_refl _, FrE_refl _, Or.inl ⟨rfl, ?_, hR, rfl, rfl⟩⟩
    · rw [D_X8_runCommands_9, if_neg h60, ht, Option.bind_some, jlet_eq, if_pos rfl, hS9]
    · rw [D_X9_read_122, h15, if_pos (Int32.le_refl _)]
  | succ d ih =>
    intro k n1 n2 S M hkd h1 h2 hR hA h15 hE
    obtain ⟨n1, rfl⟩ : ∃ x, n1 = x + 1 := ⟨n1 - 1, by omega⟩
    obtain ⟨n2, rfl⟩ : ∃ x, n2 = x + 1 := ⟨n2 - 1, by omega⟩
    have hkn : k < n := by omega
    have h60 : ¬ (60 : Int32) ≤ nI k := ile_f (a := 60) (by omega) (by omega)
    obtain ⟨T2, t1, t2, t3, t4, t5, t6, t7⟩ := c_next hX hkn (hA.1 hkn)
    have hmg : mgX1 (S 9) T2 = T2 := by
      refine mg1_id (fun r r0 _ r2 => t2.2 r r0 r2) (fun y _ y6 y7 => t2.1 y y6 y7)
    obtain ⟨K, rc, rm, g1, g2, g3⟩ := doC (S := u1 S 9 T2) (M := M) (s := s) (len := len) (k := k) (by omega) (by rw [u1_ne (by decide)]; exact hR) (hE k hkn) (hc k hkn).1 (by rw [u1_eq]; exact t5) (by rw [u1_eq]; exact t6) (fun q => by rw [u1_eq]; exact t7 q)
    obtain ⟨hK, hF, hO⟩ := g3
    rw [u1_ne (show (0 : Nat) ≠ 9 by decide)] at hO
    have hcs : D_X8_runCommands_9 3000 (n1 + 1) S (nI k) = if 0 ≤ rc.1 then D_X8_runCommands_9 3000 n1 (u1 (u1 S 9 T2) 0 rc.2) (nI (k + 1)) else some (rc.1, u1 (u1 S 9 T2) 0 rc.2) := by
      rw [D_X8_runCommands_9, if_neg h60, t1, Option.bind_some, jlet_eq, if_neg (show ¬ (1 : Int32) = 0 by decide)]
      dsimp only
      rw [hmg, u1_eq, t4, g1, Option.bind_some, zI_succ]
    have hrs : D_X9_read_122 3000 (n2 + 1) M (nI k) = if rm.1 = 0 then D_X9_read_122 3000 n2 rm.2 (nI (k + 1)) else (F_X9_copies 3000 rm.2 8 0).bind (fun r3 => jlet (stF r3 0 2) (fun M4 => some (0, M4))) := by
      rw [D_X9_read_122, h15, if_neg (ile_f hkn (by omega)), g2, Option.bind_some, zI_succ]
    have s9 : u1 (u1 S 9 T2) 0 rc.2 9 = T2 := by rw [u1_ne (by decide), u1_eq]
    have s0 : u1 (u1 S 9 T2) 0 rc.2 0 = rc.2 := u1_eq
    have sj : ∀ j, j ≠ 0 → j ≠ 9 → u1 (u1 S 9 T2) 0 rc.2 j = S j := fun j j0 j9 => by rw [u1_ne j0, u1_ne j9]
    rw [hcs, hrs]
    have bad : rc.1 < 0 → rm.1 ≠ 0 → (((rc.1 = -1 ∨ rc.1 = -2 ∨ rc.1 = -3) ∧ rm.2 0 4 = M 0 4 ∧ rm.2 0 5 = M 0 5) ∨ ∃ a d : Nat, 1 ≤ a ∧ a ≤ 9 ∧ d < 1000 ∧ rc.1 = jRef (nI a) (nI d) ∧ rm.2 0 4 = nI a ∧ rm.2 0 5 = nI d) → ∃ (v : Int32) (S' : CS) (M' : RM), (if 0 ≤ rc.1 then D_X8_runCommands_9 3000 n1 (u1 (u1 S 9 T2) 0 rc.2) (nI (k + 1)) else some (rc.1, u1 (u1 S 9 T2) 0 rc.2)) = some (v, S') ∧ (∀ j, j ≠ 0 → j ≠ 9 → S' j = S j) ∧ NearI (S 9) (S' 9) ∧ FrE M M' ∧ ((v = nI n ∧ (if rm.1 = 0 then D_X9_read_122 3000 n2 rm.2 (nI (k + 1)) else (F_X9_copies 3000 rm.2 8 0).bind (fun r3 => jlet (stF r3 0 2) (fun M4 => some (0, M4)))) = (F_X9_keeps 3000 M').bind (fun r1 => some (r1 0 15, r1)) ∧ RSea (S' 0) (blk M' 0) ∧ M' 0 4 = M 0 4 ∧ M' 0 5 = M 0 5) ∨ (v < 0 ∧ (if rm.1 = 0 then D_X9_read_122 3000 n2 rm.2 (nI (k + 1)) else (F_X9_copies 3000 rm.2 8 0).bind (fun r3 => jlet (stF r3 0 2) (fun M4 => some (0, M4)))) = (F_X9_copies 3000 M' 8 0).bind (fun r3 => jlet (stF r3 0 2) (fun M4 => some (0, M4))) ∧ (((v = -1 ∨ v = -2 ∨ v = -3) ∧ M' 0 4 = M 0 4 ∧ M' 0 5 = M 0 5) ∨ ∃ a d : Nat, 1 ≤ a ∧ a ≤ 9 ∧ d < 1000 ∧ v = jRef (nI a) (nI d) ∧ M' 0 4 = nI a ∧ M' 0 5 = nI d))) := fun q1 q2 q3 => by
      refine ⟨rc.1, u1 (u1 S 9 T2) 0 rc.2, rm.2, if_neg (Int32.not_le.mpr q1), sj, by rw [s9]; exact t2, hF, Or.inr ⟨q1, if_neg q2, q3⟩⟩
    rcases hO with ⟨p1, p2, p3, p4, p5, p6⟩ | ⟨p1, p2, p3, p4⟩ | ⟨p1, p2, a, dd, p3, p4, p5, p6, p7, p8⟩
    · rw [if_pos p1, if_pos p2]
      have r3 : rm.2 3 = M 3 := hF.1 3 (by decide) (by decide)
      obtain ⟨v, S', M', k1, k2, k3, k4, k5⟩ := ih (k + 1) n1 n2 (u1 (u1 S 9 T2) 0 rc.2) rm.2 (by omega) (by omega) (by omega) (by rw [s0]; exact p4) (by rw [s9]; exact t3) ((hF.2.1 15 (by decide) (by decide) (by decide) (by decide) (by decide)).trans h15) (fun j hj => by
        unfold Ent
        rw [r3]
        exact hE j hj)
      rw [s9] at k3
      rw [p5, p6] at k5
      exact ⟨v, S', M', k1, fun j j0 j9 => (k2 j j0 j9).trans (sj j j0 j9), nearI_trans t2 k3, frE_trans hF k4, k5⟩
    · refine bad ?_ ?_ (Or.inl ⟨?_, p2, p3⟩)
      · rcases p4 with q | q | q <;> rw [q.1] <;> decide
      · rcases p4 with q | q | q <;> rw [q.2] <;> decide
      · rcases p4 with q | q | q
        · exact Or.inl q.1
        · exact Or.inr (Or.inl q.1)
        · exact Or.inr (Or.inr q.1)
    · refine bad ?_ (by rw [p2]; decide) (Or.inr ⟨a, dd, p3, p4, p5, p6, p7, p8⟩)
      rw [p6, jRef_eq p4 p5, Int32.lt_iff_toInt_lt, zI_negI (by omega)]
      have e : (0 : Int32).toInt = 0 := rfl
      omega
