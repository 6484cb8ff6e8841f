/-! the text: what a command is -/
def cA (s : Nat → Int32) (len i : Nat) : Int32 := if i < len then s i else 0
def cB (s : Nat → Int32) (len i : Nat) : Int32 := if i < len then s i else -1
theorem cAB_dg (s : Nat → Int32) (len i : Nat) : jIn (cB s len i) 48 57 = jIn (cA s len i) 48 57 := by
  unfold cA cB
  by_cases h : i < len
  · rw [if_pos h, if_pos h]
  · rw [if_neg h, if_neg h]; decide
theorem cAB_sg {s : Nat → Int32} {len i : Nat} {c : Int32} (h0 : c ≠ 0) (h1 : c ≠ -1) : cB s len i = c ↔ cA s len i = c := by
  unfold cA cB
  by_cases h : i < len
  · rw [if_pos h, if_pos h]
  · rw [if_neg h, if_neg h]
    exact ⟨fun q => absurd q.symm h1, fun q => absurd q.symm h0⟩
theorem cA_lt {s : Nat → Int32} {len i : Nat} (h : cA s len i ≠ 0) : i < len := by
  unfold cA at h
  by_cases q : i < len
  · exact q
  · rw [if_neg q] at h; exact absurd rfl h
theorem cA_dg {s : Nat → Int32} {len i : Nat} (h : ¬ jIn (cA s len i) 48 57 = 0) : i < len := cA_lt (fun q => by rw [q] at h; exact h (by decide))
theorem cAB_eq {s : Nat → Int32} {len i : Nat} (h : i < len) : cB s len i = cA s len i := by
  unfold cA cB
  rw [if_pos h, if_pos h]
/-- the end of a number that begins at p, and the number -/
def nE (s : Nat → Int32) (len : Nat) (lg : Bool) (p : Nat) : Nat := if lg = true ∧ ¬ jIn (cA s len (p + 1)) 48 57 = 0 then p + 2 else p + 1
def nV (s : Nat → Int32) (len : Nat) (lg : Bool) (p : Nat) : Int32 := if lg = true ∧ ¬ jIn (cA s len (p + 1)) 48 57 = 0 then (cA s len p - 48) * 10 + cA s len (p + 1) - 48 else cA s len p - 48
/-- a command whose form is i, from its letter at p on: whether it is there, where it ends or is wrong, its numbers -/
def cmd (s : Nat → Int32) (len i p : Nat) : Bool × Nat × Int32 × Int32 × Int32 :=
  if jIn (cA s len (p + 1)) 48 57 = 0 then (false, p + 1, 0, 0, 0) else
  if ¬ cA s len (nE s len true (p + 1)) = tsc i 1 then (false, nE s len true (p + 1), 0, 0, 0) else
  if jIn (cA s len (nE s len true (p + 1) + 1)) 48 57 = 0 then (false, nE s len true (p + 1) + 1, 0, 0, 0) else
  if i = 1 ∨ i = 3 then
    (if ¬ cA s len (nE s len true (nE s len true (p + 1) + 1)) = tsc i 3 then (false, nE s len true (nE s len true (p + 1) + 1), 0, 0, 0) else
     if jIn (cA s len (nE s len true (nE s len true (p + 1) + 1) + 1)) 48 57 = 0 then (false, nE s len true (nE s len true (p + 1) + 1) + 1, 0, 0, 0) else
     (true, nE s len (decide (i = 3)) (nE s len true (nE s len true (p + 1) + 1) + 1), nV s len true (p + 1), nV s len true (nE s len true (p + 1) + 1), nV s len (decide (i = 3)) (nE s len true (nE s len true (p + 1) + 1) + 1)))
  else (true, nE s len true (nE s len true (p + 1) + 1), nV s len true (p + 1), nV s len true (nE s len true (p + 1) + 1), 0)
def cmdAt (s : Nat → Int32) (len p : Nat) : Bool × Nat × Int32 × Int32 × Int32 := if fIx (cA s len p) = 5 then (false, p, 0, 0, 0) else cmd s len (fIx (cA s len p)) p
theorem nE_bd (s : Nat → Int32) (len : Nat) (lg : Bool) (p : Nat) : p + 1 ≤ nE s len lg p ∧ nE s len lg p ≤ p + 2 := by
  unfold nE
  by_cases h : lg = true ∧ ¬ jIn (cA s len (p + 1)) 48 57 = 0
  · rw [if_pos h]; omega
  · rw [if_neg h]; omega
theorem nE_len {s : Nat → Int32} {len : Nat} {lg : Bool} {p : Nat} (h : p < len) : nE s len lg p ≤ len := by
  unfold nE
  by_cases q : lg = true ∧ ¬ jIn (cA s len (p + 1)) 48 57 = 0
  · rw [if_pos q]
    have := cA_dg q.2
    omega
  · rw [if_neg q]; omega
/-! the class's reader -/
def IT (M : RM) (s : Nat → Int32) (len p : Nat) : Prop := M 0 5 = nI len ∧ M 0 6 = nI p ∧ M 1 = s ∧ len ≤ 60 ∧ p ≤ 200 ∧ ∀ j, j < len → isC (s j) = true
theorem c_here {N : Nat} {M : RM} {s : Nat → Int32} {len p : Nat} (h : IT M s len p) : F_X1_signHere N M = some (cA s len p) := by
  obtain ⟨h5, h6, h1, hl, hp, hc⟩ := h
  unfold F_X1_signHere D_X1_signHere_35
  rw [h6, h5, if_neg (Int32.not_lt.mpr (zI_pos (by omega)))]
  unfold cA
  by_cases q : p < len
  · rw [if_neg (ile_f q (by omega)), if_neg (show ¬ Int32.ofNat 60 ≤ nI p from ile_f (a := 60) (by omega) (by omega)), if_neg (show ¬ (1 : Int32) = 0 by decide), if_pos (zI_inb (by omega) (by omega)), zI_nat (by omega), h1, if_pos (hc p q), if_pos q]
  · rw [if_pos (ile_t (by omega) (by omega)), if_pos rfl, if_pos (by decide), if_neg q]
theorem c_dig (N : Nat) (v : Int32) : F_X1_isDigit N v = some (jIn v 48 57) := by
  unfold F_X1_isDigit jIn
  by_cases h1 : v < 48
  · rw [if_pos h1, if_pos h1]
  · by_cases h2 : 57 < v
    · rw [if_neg h1, if_neg h1, if_pos h2, if_pos h2]
    · rw [if_neg h1, if_neg h1, if_neg h2, if_neg h2]
theorem c_sign {N : Nat} {M : RM} {s : Nat → Int32} {len p : Nat} {c : Int32} (h : IT M s len p) : F_X1_takeSign N M c = if cA s len p = c then some (1, stF M 6 (nI (p + 1))) else some (0, M) := by
  unfold F_X1_takeSign
  rw [c_here h, Option.bind_some, jlet_eq, h.2.1, zI_succ]
theorem IT_6 {M : RM} {s : Nat → Int32} {len p q : Nat} (h : IT M s len p) (hq : q ≤ 200) : IT (stF M 6 (nI q)) s len q := ⟨(stF_o (by decide)).trans h.1, stF_eq, (stF_1).trans h.2.2.1, h.2.2.2.1, hq, h.2.2.2.2.2⟩
theorem IT_2 {M : RM} {s : Nat → Int32} {len p : Nat} {f : Nat → Int32} (h : IT M s len p) : IT (u1 M 2 f) s len p := ⟨by rw [u1_ne (by decide)]; exact h.1, by rw [u1_ne (by decide)]; exact h.2.1, by rw [u1_ne (by decide)]; exact h.2.2.1, h.2.2.2⟩
/-- what the reader leaves as it was -/
def NearI (M M' : RM) : Prop := (∀ x, x ≠ 6 → x ≠ 7 → M' 0 x = M 0 x) ∧ ∀ r, r ≠ 0 → r ≠ 2 → M' r = M r
theorem nearI_refl (M : RM) : NearI M M := ⟨fun _ _ _ => rfl, fun _ _ _ => rfl⟩
theorem nearI_trans {M M' M'' : RM} (h : NearI M M') (h2 : NearI M' M'') : NearI M M'' := ⟨fun x a b => (h2.1 x a b).trans (h.1 x a b), fun r a b => (h2.2 r a b).trans (h.2 r a b)⟩
theorem nearI_F {M : RM} {x : Nat} {v : Int32} (h : x = 6 ∨ x = 7) : NearI M (stF M x v) := ⟨fun y h6 h7 => stF_o (by omega), fun r r0 _ => stF_ne r0⟩
theorem nearI_2 {M : RM} {f : Nat → Int32} : NearI M (u1 M 2 f) := ⟨fun y _ _ => by rw [u1_ne (by decide)], fun r _ r2 => u1_ne r2⟩
theorem c_num {N : Nat} {M : RM} {s : Nat → Int32} {len p k : Nat} {lg : Bool} (h : IT M s len p) (hp : p ≤ 190) (hk : k < 3) (hd : ¬ jIn (cA s len p) 48 57 = 0) : ∃ M', F_X1_takeNumber N M (nI k) (if lg = true then 1 else 0) = some (1, M') ∧ IT M' s len (nE s len lg p) ∧ M' 2 = upd (M 2) k (nV s len lg p) ∧ M' 0 7 = M 0 7 ∧ NearI M M' := by
  have h2 : IT (stF M 6 (nI (p + 1))) s len (p + 1) := IT_6 h (by omega)
  have e62 : stF M 6 (nI (p + 1)) 2 = M 2 := stF_ne (by decide)
  unfold F_X1_takeNumber
  rw [c_here h, Option.bind_some, c_dig, Option.bind_some, if_neg hd, Option.bind_some, jlet_eq, h.2.1, zI_succ]
  cases lg with
  | false =>
    rw [if_neg (show ¬ false = true by decide), if_pos rfl, jlet_eq, e62, zI_rs hk (by omega)]
    have e1 : nE s len false p = p + 1 := if_neg (fun q => absurd q.1 (by decide))
    have e2 : nV s len false p = cA s len p - 48 := if_neg (fun q => absurd q.1 (by decide))
    rw [e1, e2]
    exact ⟨_, rfl, IT_2 h2, u1_eq, by rw [u1_ne (by decide)]; exact stF_o (by decide), nearI_trans (nearI_F (Or.inl rfl)) nearI_2⟩
  | true =>
    rw [if_pos rfl, if_neg (show ¬ (1 : Int32) = 0 by decide), c_here h2, Option.bind_some, c_dig, Option.bind_some, Option.bind_some, jlet_eq, jlet_eq, jlet_eq, e62, zI_rs hk (by omega)]
    by_cases hd2 : jIn (cA s len (p + 1)) 48 57 = 0
    · have e1 : nE s len true p = p + 1 := if_neg (fun q => q.2 hd2)
      have e2 : nV s len true p = cA s len p - 48 := if_neg (fun q => q.2 hd2)
      rw [if_pos hd2, e1, e2]
      exact ⟨_, rfl, IT_2 h2, u1_eq, by rw [u1_ne (by decide)]; exact stF_o (by decide), nearI_trans (nearI_F (Or.inl rfl)) nearI_2⟩
    · have e1 : nE s len true p = p + 2 := if_pos ⟨rfl, hd2⟩
      have e2 : nV s len true p = (cA s len p - 48) * 10 + cA s len (p + 1) - 48 := if_pos ⟨rfl, hd2⟩
      have e63 : stF (stF M 6 (nI (p + 1))) 6 (nI (p + 1 + 1)) 2 = M 2 := by rw [stF_ne (by decide), e62]
      rw [if_neg hd2, h2.2.1, zI_succ, e63, zI_rs hk (by omega), e1, e2]
      exact ⟨_, rfl, IT_2 (IT_6 h2 (by omega)), u1_eq, by rw [u1_ne (by decide), stF_o (by decide)]; exact stF_o (by decide), nearI_trans (nearI_trans (nearI_F (Or.inl rfl)) (nearI_F (Or.inl rfl))) nearI_2⟩
theorem c_num0 {N : Nat} {M : RM} {s : Nat → Int32} {len p : Nat} {k v : Int32} (h : IT M s len p) (hd : jIn (cA s len p) 48 57 = 0) : F_X1_takeNumber N M k v = some (0, M) := by
  unfold F_X1_takeNumber
  rw [c_here h, Option.bind_some, c_dig, Option.bind_some, if_pos hd]
/-- the form, sign by sign -/
theorem st_num {N n i k : Nat} {M : RM} {v2 : Int32} (hi : i < 6) (hk : k < tsLen.getD i 0) (hl : tsLen.getD i 0 ≤ 5) (hc : tsc i k = 35 ∨ tsc i k = 49) : D_X1_takeCommand_39 N (n + 1) M i v2 (nI k) = (F_X1_takeNumber N M v2 (if (decide (tsc i k = 35)) = true then 1 else 0)).bind (fun r1 => if r1.1 = 0 then some ((0 : Int32), r1.2) else D_X1_takeCommand_39 N n r1.2 i (v2 + 1) (nI (k + 1))) := by
  have hlt : ¬ tsl i ≤ nI k := ile_f (a := tsLen.getD i 0) hk (by omega)
  rw [D_X1_takeCommand_39, if_pos hi, if_neg hlt, if_pos hi, if_pos (zI_inb hk (by omega)), zI_nat (by omega)]
  unfold D_X1_takeCommand_73 D_X1_takeCommand_94
  rw [zI_succ]
  rcases hc with h | h
  · rw [if_pos h, if_neg (show ¬ (1 : Int32) = 0 by decide), if_pos h, decide_eq_true h, if_pos rfl]
    rfl
  · have h35 : ¬ tsc i k = 35 := by rw [h]; decide
    rw [if_neg h35, if_pos h, if_neg (show ¬ (1 : Int32) = 0 by decide), if_neg h35, decide_eq_false h35, if_neg (show ¬ false = true by decide)]
    rfl
theorem st_sign {N n i k : Nat} {M : RM} {v2 : Int32} (hi : i < 6) (hk : k < tsLen.getD i 0) (hl : tsLen.getD i 0 ≤ 5) (h35 : ¬ tsc i k = 35) (h49 : ¬ tsc i k = 49) : D_X1_takeCommand_39 N (n + 1) M i v2 (nI k) = (F_X1_takeSign N M (tsc i k)).bind (fun r1 => if r1.1 = 0 then some ((0 : Int32), r1.2) else D_X1_takeCommand_39 N n r1.2 i v2 (nI (k + 1))) := by
  have hlt : ¬ tsl i ≤ nI k := ile_f (a := tsLen.getD i 0) hk (by omega)
  rw [D_X1_takeCommand_39, if_pos hi, if_neg hlt, if_pos hi, if_pos (zI_inb hk (by omega)), zI_nat (by omega), if_neg h35, if_neg h49]
  unfold D_X1_takeCommand_73
  rw [if_pos rfl, zI_succ]
  rfl
theorem st_end {N n i k : Nat} {M : RM} {v2 : Int32} (hi : i < 6) (hk : tsLen.getD i 0 = k) (hl : k ≤ 5) : D_X1_takeCommand_39 N (n + 1) M i v2 (nI k) = some (1, M) := by
  have hlt : tsl i ≤ nI k := ile_t (a := tsLen.getD i 0) (by omega) (by omega)
  rw [D_X1_takeCommand_39, if_pos hi, if_pos hlt]
/-- what the class has read of a command -/
def CmdC (s : Nat → Int32) (len i : Nat) (M M' : RM) (r : Int32) (c : Bool × Nat × Int32 × Int32 × Int32) : Prop := r = (if c.1 = true then 1 else 0) ∧ IT M' s len c.2.1 ∧ M' 0 7 = M 0 7 ∧ NearI M M' ∧ (c.1 = true → M' 2 0 = c.2.2.1 ∧ M' 2 1 = c.2.2.2.1 ∧ ((i = 1 ∨ i = 3) → M' 2 2 = c.2.2.2.2))
theorem c_form {N : Nat} {M : RM} {s : Nat → Int32} {len i p : Nat} (hN : 10 < N) (h : IT M s len (p + 1)) (hp : p ≤ 100) (hi : i < 5) : ∃ r M', D_X1_takeCommand_39 N N M i 0 0 = some (r, M') ∧ CmdC s len i M M' r (cmd s len i p) := by
  have hfor : ∀ i, i < 5 → (tsc i 0 = 35 ∧ tsc i 2 = 35 ∧ ¬ tsc i 1 = 35 ∧ ¬ tsc i 1 = 49 ∧ 3 ≤ tsLen.getD i 0 ∧ tsLen.getD i 0 ≤ 5 ∧ ((i = 1 ∨ i = 3) → tsLen.getD i 0 = 5 ∧ ¬ tsc i 3 = 35 ∧ ¬ tsc i 3 = 49 ∧ (tsc i 4 = 35 ∨ tsc i 4 = 49) ∧ (decide (tsc i 4 = 35)) = (decide (i = 3))) ∧ (¬ (i = 1 ∨ i = 3) → tsLen.getD i 0 = 3)) := by decide +kernel
  obtain ⟨t0, t2, t1, t1', tl, tl', t13, tn⟩ := hfor i hi
  obtain ⟨n, hn⟩ : ∃ n, N = n + 6 := ⟨N - 6, by omega⟩
  have e0 := st_num (N := N) (n := n + 5) (i := i) (k := 0) (M := M) (v2 := 0) (by omega) (by omega) tl' (Or.inl t0)
  have e00 : D_X1_takeCommand_39 N N M i 0 0 = D_X1_takeCommand_39 N (n + 5 + 1) M i 0 (nI 0) := by rw [hn]; rfl
  rw [e00, e0]
  have d0 : (decide (tsc i 0 = 35)) = true := decide_eq_true t0
  rw [d0, if_pos rfl]
  unfold cmd
  by_cases h1 : jIn (cA s len (p + 1)) 48 57 = 0
  · rw [c_num0 h h1, Option.bind_some, if_pos rfl, if_pos h1]
    exact ⟨0, M, rfl, rfl, h, rfl, nearI_refl M, fun q => absurd (show false = true from q) (by decide)⟩
  · obtain ⟨M1, a1, a2, a3, a4, a5⟩ := c_num (N := N) (k := 0) (lg := true) h (by omega) (by omega) h1
    have b1 := nE_bd s len true (p + 1)
    have a1 : F_X1_takeNumber N M 0 1 = some (1, M1) := a1
    rw [a1, Option.bind_some, if_neg (show ¬ (1 : Int32) = 0 by decide), if_neg h1]
    generalize nE s len true (p + 1) = e1 at a2 b1 ⊢
    have s1 := st_sign (N := N) (n := n + 4) (i := i) (k := 1) (M := M1) (v2 := 1) (by omega) (by omega) tl' t1 t1'
    have s1 : D_X1_takeCommand_39 N (n + 5) M1 i (0 + 1) (nI (0 + 1)) = (F_X1_takeSign N M1 (tsc i 1)).bind (fun r1 => if r1.1 = 0 then some ((0 : Int32), r1.2) else D_X1_takeCommand_39 N (n + 4) r1.2 i 1 (nI 2)) := s1
    rw [s1, c_sign a2]
    by_cases h2 : cA s len e1 = tsc i 1
    · rw [if_pos h2, Option.bind_some, if_neg (show ¬ (1 : Int32) = 0 by decide), if_neg (fun q => q h2)]
      have a22 := IT_6 a2 (show e1 + 1 ≤ 200 by omega)
      have s2 := st_num (N := N) (n := n + 3) (i := i) (k := 2) (M := stF M1 6 (nI (e1 + 1))) (v2 := 1) (by omega) (by omega) tl' (Or.inl t2)
      rw [decide_eq_true t2, if_pos rfl] at s2
      dsimp only
      rw [s2]
      by_cases h3 : jIn (cA s len (e1 + 1)) 48 57 = 0
      · rw [c_num0 a22 h3, Option.bind_some, if_pos rfl, if_pos h3]
        exact ⟨0, stF M1 6 (nI (e1 + 1)), rfl, rfl, a22, (show stF M1 6 (nI (e1 + 1)) 0 7 = M 0 7 from (stF_o (by decide)).trans a4), nearI_trans a5 (nearI_F (Or.inl rfl)), fun q => absurd (show false = true from q) (by decide)⟩
      · obtain ⟨M2, g1, g2, g3, g4, g5⟩ := c_num (N := N) (k := 1) (lg := true) a22 (by omega) (by omega) h3
        have b2 := nE_bd s len true (e1 + 1)
        have g1 : F_X1_takeNumber N (stF M1 6 (nI (e1 + 1))) 1 1 = some (1, M2) := g1
        rw [g1, Option.bind_some, if_neg (show ¬ (1 : Int32) = 0 by decide), if_neg h3]
        have m20 : M2 2 0 = nV s len true (p + 1) := by rw [g3, upd_ne (by decide), stF_ne (by decide), a3, upd_eq]
        have m21 : M2 2 1 = nV s len true (e1 + 1) := by rw [g3, upd_eq]
        have m7 : M2 0 7 = M 0 7 := g4.trans ((stF_o (by decide)).trans a4)
        have nr : NearI M M2 := nearI_trans a5 (nearI_trans (nearI_F (Or.inl rfl)) g5)
        generalize nV s len true (e1 + 1) = w1 at m21 ⊢
        generalize nE s len true (e1 + 1) = e2 at g2 b2 ⊢
        have e12 : (1 : Int32) + 1 = nI 2 := rfl
        dsimp only
        rw [e12]
        by_cases h13 : i = 1 ∨ i = 3
        · obtain ⟨u1', u2, u3, u4, u5⟩ := t13 h13
          rw [if_pos h13, st_sign (N := N) (n := n + 2) (i := i) (k := 3) (M := M2) (v2 := nI 2) (by omega) (by omega) tl' u2 u3, c_sign g2]
          by_cases h4 : cA s len e2 = tsc i 3
          · have g22 := IT_6 g2 (show e2 + 1 ≤ 200 by omega)
            rw [if_pos h4, Option.bind_some, if_neg (show ¬ (1 : Int32) = 0 by decide), if_neg (fun q => q h4), st_num (N := N) (n := n + 1) (i := i) (k := 4) (v2 := nI 2) (by omega) (by omega) tl' u4, u5]
            dsimp only
            by_cases h5 : jIn (cA s len (e2 + 1)) 48 57 = 0
            · rw [c_num0 g22 h5, Option.bind_some, if_pos rfl, if_pos h5]
              exact ⟨0, stF M2 6 (nI (e2 + 1)), rfl, rfl, g22, (show stF M2 6 (nI (e2 + 1)) 0 7 = M 0 7 from (stF_o (by decide)).trans m7), nearI_trans nr (nearI_F (Or.inl rfl)), fun q => absurd (show false = true from q) (by decide)⟩
            · obtain ⟨M3, k1, k2, k3, k4, k5⟩ := c_num (N := N) (k := 2) (lg := decide (i = 3)) g22 (by omega) (by omega) h5
              rw [k1, Option.bind_some, if_neg (show ¬ (1 : Int32) = 0 by decide), if_neg h5]
              dsimp only
              rw [st_end (N := N) (n := n) (i := i) (k := 5) (by omega) u1' (by omega)]
              refine ⟨1, M3, rfl, rfl, k2, k4.trans ((stF_o (by decide)).trans m7), nearI_trans nr (nearI_trans (nearI_F (Or.inl rfl)) k5), fun _ => ⟨?_, ?_, fun _ => ?_⟩⟩
              · rw [k3, upd_ne (by decide), stF_ne (by decide)]; exact m20
              · rw [k3, upd_ne (by decide), stF_ne (by decide)]; exact m21
              · rw [k3, upd_eq]
          · rw [if_neg h4, Option.bind_some, if_pos rfl, if_pos h4]
            exact ⟨0, _, rfl, rfl, g2, m7, nr, fun q => absurd (show false = true from q) (by decide)⟩
        · rw [if_neg h13, st_end (N := N) (n := n + 2) (i := i) (k := 3) (by omega) (tn h13) (by omega)]
          exact ⟨1, M2, rfl, rfl, g2, m7, nr, fun _ => ⟨m20, m21, fun q => absurd q h13⟩⟩
    · rw [if_neg h2, Option.bind_some, if_pos rfl, if_pos h2]
      exact ⟨0, _, rfl, rfl, a2, a4, a5, fun q => absurd (show false = true from q) (by decide)⟩
theorem fIx_le (c : Int32) : fIx c ≤ 5 := by
  unfold fIx
  repeat (first | (split <;> omega) | (split; omega) | omega)
theorem c_takeC {N : Nat} {M : RM} {s : Nat → Int32} {len p : Nat} (hN : 10 < N) (h : IT M s len p) (hp : p ≤ 100) : ∃ r M', F_X1_takeCommand N M = some (r, M') ∧ r = (if (cmdAt s len p).1 = true then 1 else 0) ∧ IT M' s len (cmdAt s len p).2.1 ∧ M' 0 7 = cA s len p ∧ NearI M M' ∧ ((cmdAt s len p).1 = true → M' 2 0 = (cmdAt s len p).2.2.1 ∧ M' 2 1 = (cmdAt s len p).2.2.2.1 ∧ ((fIx (cA s len p) = 1 ∨ fIx (cA s len p) = 3) → M' 2 2 = (cmdAt s len p).2.2.2.2)) := by
  have hisC : isC (cA s len p) = true := by
    unfold cA
    by_cases q : p < len
    · rw [if_pos q]; exact h.2.2.2.2.2 p q
    · rw [if_neg q]; decide
  have h7 : IT (stF M 7 (cA s len p)) s len p := ⟨(stF_o (by decide)).trans h.1, (stF_o (by decide)).trans h.2.1, (stF_1).trans h.2.2.1, h.2.2.2⟩
  have e7 : stF M 7 (cA s len p) 0 7 = cA s len p := stF_eq
  have hle := fIx_le (cA s len p)
  unfold F_X1_takeCommand cmdAt
  rw [c_here h, Option.bind_some, if_pos hisC, jlet_eq, e7, jlet_eq, if_pos (by omega)]
  by_cases h5 : fIx (cA s len p) = 5
  · rw [if_pos h5, h5, if_neg (show ¬ (if tsl 5 = 0 then (1 : Int32) else 0) = 0 by decide)]
    exact ⟨0, _, rfl, rfl, h7, e7, nearI_F (Or.inr rfl), fun q => absurd (show false = true from q) (by decide)⟩
  · have ht : ∀ i, i < 5 → (if tsl i = 0 then (1 : Int32) else 0) = 0 := by decide +kernel
    rw [if_neg h5, if_pos (ht _ (by omega)), jlet_eq, h7.2.1, zI_succ]
    obtain ⟨r, M', g1, g2, g3, g4, g5, g6⟩ := c_form (N := N) (M := stF (stF M 7 (cA s len p)) 6 (nI (p + 1))) (i := fIx (cA s len p)) hN (IT_6 h7 (by omega)) hp (by omega)
    exact ⟨r, M', g1, g2, g3, g4.trans ((stF_o (by decide)).trans e7), nearI_trans (nearI_trans (nearI_F (Or.inr rfl)) (nearI_F (Or.inl rfl))) g5, g6⟩
