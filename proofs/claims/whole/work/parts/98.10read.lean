/-! read -/
theorem mg_5 {T : RM} {v : Int32} : mgX1 T (stF T 5 v) = stF T 5 v := mg1_id (fun r r0 _ _ => stF_ne r0) (fun y y5 _ _ => stF_o y5)
theorem mg_6 {T : RM} {v : Int32} : mgX1 T (stF T 6 v) = stF T 6 v := mg1_id (fun r r0 _ _ => stF_ne r0) (fun y _ y6 _ => stF_o y6)
theorem stT_u {S : CS} {T : RM} {k : Nat} {v : Int32} : stT (u1 S 9 T) k v = u1 S 9 (stF T k v) := by
  unfold stT
  rw [u1_eq, u1_u1]
theorem stF_same {M : RM} {k : Nat} {v : Int32} (h : M 0 k = v) : stF M k v = M := by
  subst h
  unfold stF
  rw [u1_id, u1_id]
theorem cpB_stF {M : RM} {x f t : Nat} {v : Int32} : cpB (stF M x v) f t = stF (cpB M f t) x v := by
  funext r
  by_cases h0 : r = 0
  · subst h0
    rw [cpB_row (by decide)]
    unfold stF
    rw [u1_eq, u1_eq, cpB_row (by decide)]
  · by_cases h1 : r = 1
    · subst h1
      rw [stF_ne (by decide)]
      unfold cpB cpI
      rw [u1_eq, u1_eq, stF_1]
    · rw [stF_ne h0, cpB_row h1, stF_ne h0, cpB_row h1]
set_option maxRecDepth 100000 in
theorem je_read : jE_read (Rel RSea) := by
  intro S M h
  have h' := h
  obtain ⟨hr0, ⟨m, hm, hm1, hm2, hh⟩, hs, ht, hx3, len, l1, l2, l3, l4⟩ := h'
  have hI0 : IT (stF (S 9) 6 0) (S 9 1) len (psn (S 9 1) len 0) := ⟨(stF_o (by decide)).trans l2, stF_eq, stF_1, l1, Nat.zero_le _, fun j hj => (l4 j hj).2⟩
  have hR0 : RT (stF (stF (stF M 12 0) 13 (-1)) 15 0) (S 9 1) len (psn (S 9 1) len 0) := ⟨(stF_o (by decide)).trans ((stF_o (by decide)).trans ((stF_o (by decide)).trans l3)), (stF_o (by decide)).trans ((stF_o (by decide)).trans stF_eq), fun j hj => by rw [stF_ne (by decide), stF_ne (by decide), stF_ne (by decide)]; exact (l4 j hj).1.symm, l1, Nat.zero_le _⟩
  obtain ⟨T', M', k1, k2, k3, k4⟩ := parse (s := S 9 1) (len := len) 61 0 3000 3000 (stF (S 9) 6 0) (stF (stF (stF M 12 0) 13 (-1)) 15 0) (show 61 ≤ 0 + 61 by omega) (show 0 ≤ 60 by omega) (by omega) (by omega) (show 2 * 0 ≤ 0 by omega) hI0 hR0 ((stF_o (by decide)).trans stF_eq) stF_eq (fun j hj => absurd hj (by omega)) (fun j hj => absurd hj (by omega))
  have hff : F_X1_findFault 3000 (S 9) = D_X1_findFault_6 3000 3000 (stF (S 9) 6 0) (nI 0) := by
    unfold F_X1_findFault F_X1_goToStart
    rw [jlet_eq]
    rfl
  have hrr : F_X9_read 3000 M = D_X9_read_78 3000 M' := by
    unfold F_X9_read
    rw [jlet_eq, jlet_eq, jlet_eq]
    exact k3
  have nT : NearI (S 9) T' := nearI_trans (nearI_F (Or.inl rfl)) k1
  have nM : NearX M M' := nearX_trans (nearX_trans (nearX_F (Or.inl rfl)) (nearX_trans (nearX_F (Or.inr (Or.inl rfl))) (nearX_F (Or.inr (Or.inr rfl))))) k2
  have hmg : mgX1 (S 9) T' = T' := mg1_id (fun r r0 _ r2 => nT.2 r r0 r2) (fun y _ y6 y7 => nT.1 y y6 y7)
  rcases k4 with ⟨f, f1, f2, f3⟩ | ⟨n, f2, f3, f4, hX, f5⟩
  · have hne : ¬ nI f = -1 := fun q => by
      have e := zI_pos (a := f) (by omega)
      rw [q] at e
      exact absurd e (by decide)
    have hc : F_X8_read 3000 S = some (2, 0, u1 S 9 (stF (stF T' 3 (nI f)) 5 0)) := by
      unfold F_X8_read
      rw [hff, f2, Option.bind_some, jlet_eq, if_neg hne]
      dsimp only
      rw [hmg, jlet_eq, stT_u, u1_eq]
      unfold F_X1_clear
      rw [jlet_eq, Option.bind_some, jlet_eq, mg_5, u1_u1]
    have hm' : D_X9_read_78 3000 M' = some (0, stF (stF (stF M' 10 0) 0 1) 11 (nI f)) := by
      unfold D_X9_read_78
      rw [jlet_eq, stF_o (by decide), f3, if_neg (Int32.not_lt.mpr (zI_pos (by omega)))]
      unfold D_X9_read_96
      rw [jlet_eq, stF_eq, if_neg (show ¬ (1 : Int32) = 0 by decide), jlet_eq, stF_o (by decide), stF_o (by decide), f3]
    refine ⟨3000, (2, 0, u1 S 9 (stF (stF T' 3 (nI f)) 5 0)), 3000, (0, stF (stF (stF M' 10 0) 0 1) 11 (nI f)), hc, hrr.trans hm', Or.inr (Or.inl rfl), ?_, fun q => absurd (show (2 : Int32) = 0 from q) (by decide), ?_⟩
    · show stF (stF (stF M' 10 0) 0 1) 11 (nI f) 0 0 = hk_read 2
      rw [stF_o (by decide), stF_eq]; rfl
    · show Rel RSea (u1 S 9 (stF (stF T' 3 (nI f)) 5 0)) (stF (stF (stF M' 10 0) 0 1) 11 (nI f))
      refine rel_inp h (fun j hj => u1_ne hj) (fun x x3 x5 x6 x7 => by rw [u1_eq, stF_o x5, stF_o x3]; exact nT.1 x x6 x7) (fun r r0 r1 r2 => by rw [u1_eq, stF_ne r0, stF_ne r0]; exact nT.2 r r0 r2) (fun k => by rw [stF_1, stF_1, stF_1, nM.1 1 (by decide) (by decide)]) (fun x x0 x6 x7 x8 x10 x11 x12 x13 x15 => by rw [stF_o x11, stF_o x0, stF_o x10]; exact nM.2 x x12 x13 x15) ⟨?_, 0, by omega, ?_, ?_, fun j hj => absurd hj (by omega)⟩
      · rw [u1_eq, stF_o (by decide), stF_eq, stF_eq]
      · rw [u1_eq, stF_eq]; rfl
      · rw [stF_o (by decide), stF_o (by decide), stF_eq]; rfl
  · generalize hM8 : stF (stF M' 10 0) 0 0 = M8
    have b8 : ∀ x, x ≠ 0 → x ≠ 10 → M8 0 x = M' 0 x := fun x x0 x10 => by rw [← hM8, stF_o x0, stF_o x10]
    have r8 : ∀ r, r ≠ 0 → M8 r = M' r := fun r r0 => by rw [← hM8, stF_ne r0, stF_ne r0]
    have t8 : M8 0 0 = 0 := by rw [← hM8, stF_eq]
    have l8 : M8 0 10 = 0 := by rw [← hM8, stF_o (by decide), stF_eq]
    have hm' : D_X9_read_78 3000 M' = D_X9_read_122 3000 3000 (cpB M8 0 8) (nI 0) := by
      unfold D_X9_read_78
      rw [jlet_eq, stF_o (by decide), f3, if_pos (by decide)]
      unfold D_X9_read_96
      rw [jlet_eq, hM8, t8, if_pos rfl, z_begins (by decide), Option.bind_some]
      rfl
    clear hM8
    have hop9 : hOpen (u1 S 9 T') 9 = T' := by
      rw [hOpen_eq hm (by rw [u1_eq]; exact (nT.1 4 (by decide) (by decide)).trans hm2)]
      have := ph_2 (u1 S 9 T') m
      rw [u1_ne (by omega), u1_eq]
    -- the season, and the text, as the first command finds them
    generalize hS9 : u1 (hOpen (u1 S 9 T')) 9 (stF T' 6 0) = S9
    have p9 := ph_2 S m
    have hk9 : kof (u1 S 9 T') = kof S := kof_congr (by rw [u1_eq, nT.2 9 (by decide) (by decide)])
    have hopE : hOpen (u1 S 9 T') = u1 (u1 S 9 T') (ph S m) (S 0) := by
      rw [hOpen_eq hm (by rw [u1_eq]; exact (nT.1 4 (by decide) (by decide)).trans hm2), u1_ne (by decide)]
      unfold ph
      rw [hk9]
    have s0 : S9 0 = S 0 := by rw [← hS9, u1_ne (by decide), hopE, u1_ne (by omega), u1_ne (by decide)]
    have s9 : S9 9 = stF T' 6 0 := by rw [← hS9, u1_eq]
    have sp : S9 (ph S m) = S 0 := by rw [← hS9, u1_ne (by omega), hopE, u1_eq]
    have sj : ∀ j, j ≠ 9 → j ≠ ph S m → S9 j = S j := fun j j9 jp => by rw [← hS9, u1_ne j9, hopE, u1_ne jp, u1_ne j9]
    have hA0 : At (S 9 1) len n 0 (S9 9) := by
      rw [s9]
      have i1 : T' 1 = S 9 1 := nT.2 1 (by decide) (by decide)
      refine ⟨fun _ => ⟨(stF_o (by decide)).trans ((nT.1 5 (by decide) (by decide)).trans l2), stF_eq, stF_1.trans i1, l1, Nat.zero_le _, fun j hj => (l4 j hj).2⟩, fun q => absurd hX.1 (by omega)⟩
    obtain ⟨v, S', M2, g1, g2, g3, g4, g5⟩ := runs hX n 0 3000 3000 S9 (cpB M8 0 8) (by omega) (by have := hX.2.1; omega) (by have := hX.2.1; omega) (by
        rw [s0]
        refine RSea_loc _ _ _ (fun k hk => ?_) hr0
        rw [cpB_ne hk (by decide)]
        unfold blk
        rw [r8 1 (by decide), nM.1 1 (by decide) (by decide)]) hA0 (by rw [cpB_row (by decide), b8 15 (by decide) (by decide)]; exact f4) (fun j hj => by
        unfold Ent
        rw [cpB_row (by decide), r8 3 (by decide)]
        exact f5 j hj)
    rw [s9] at g3
    have hrun : F_X8_runCommands 3000 (hOpen (u1 S 9 T')) = some (v, S') := by
      unfold F_X8_runCommands F_X1_goToStart
      rw [hop9, jlet_eq, Option.bind_some, jlet_eq, mg_6, hS9]
      exact g1
    -- the text's end, and how both stand behind it
    generalize hF9 : stF (S' 9) 5 0 = F9
    have nF : ∀ x, x ≠ 5 → x ≠ 6 → x ≠ 7 → F9 0 x = S 9 0 x := fun x x5 x6 x7 => by rw [← hF9, stF_o x5, g3.1 x x6 x7, stF_o x6, nT.1 x x6 x7]
    have rF : ∀ r, r ≠ 0 → r ≠ 2 → F9 r = S 9 r := fun r r0 r2 => by rw [← hF9, stF_ne r0, g3.2 r r0 r2, stF_ne r0, nT.2 r r0 r2]
    have lF : F9 0 5 = 0 := by rw [← hF9, stF_eq]
    have hRel : Rel RSea (u1 S 9 F9) M8 := by
      refine rel_inp h (fun j hj => u1_ne hj) (fun x x3 x5 x6 x7 => by rw [u1_eq]; exact nF x x5 x6 x7) (fun r r0 r1 r2 => by rw [u1_eq]; exact rF r r0 r2) (fun k => by rw [r8 1 (by decide), nM.1 1 (by decide) (by decide)]) (fun x x0 x6 x7 x8 x10 x11 x12 x13 x15 => (b8 x x0 x10).trans (nM.2 x x12 x13 x15)) ⟨?_, 0, by omega, ?_, ?_, fun j hj => absurd hj (by omega)⟩
      · rw [u1_eq, nF 3 (by decide) (by decide) (by decide), b8 11 (by decide) (by decide), nM.2 11 (by decide) (by decide) (by decide)]
        exact hx3
      · rw [u1_eq, lF]; rfl
      · rw [l8]; rfl
    have c4 : u1 S 9 F9 9 0 4 = nI m := by rw [u1_eq, nF 4 (by decide) (by decide) (by decide)]; exact hm2
    have hkF : kof (u1 S 9 F9) = kof S := kof_congr (by rw [u1_eq, rF 9 (by decide) (by decide)])
    have hopF : hOpen (u1 S 9 F9) = u1 (u1 S 9 F9) (ph S m) (S 0) := by
      rw [hOpen_eq hm c4, u1_ne (by decide)]
      unfold ph
      rw [hkF]
    have hM7 : u1 S' 9 F9 = u1 (hOpen (u1 S 9 F9)) 0 (S' 0) := by
      rw [hopF]
      funext j
      by_cases j0 : j = 0
      · subst j0
        rw [u1_ne (by decide), u1_eq]
      · by_cases j9 : j = 9
        · subst j9
          rw [u1_eq, u1_ne (by decide), u1_ne (by omega), u1_eq]
        · rw [u1_ne j9, g2 j j0 j9, u1_ne j0]
          by_cases jp : j = ph S m
          · rw [jp, sp, u1_eq]
          · rw [sj j j9 jp, u1_ne jp, u1_ne j9]
    have hcl : F_X8_read 3000 S = if 0 ≤ v then some (0, v, hClose (u1 (hOpen (u1 S 9 F9)) 0 (S' 0))) else (F_X8_keepRefusal 3000 (hBack (u1 (hOpen (u1 S 9 F9)) 0 (S' 0))) v).bind (fun r13 => some ((3 : Int32), (0 : Int32), r13)) := by
      unfold F_X8_read
      rw [hff, f2, Option.bind_some, jlet_eq, if_pos rfl]
      dsimp only
      rw [hmg, jlet_eq, hrun, Option.bind_some]
      unfold F_X1_clear
      rw [jlet_eq, Option.bind_some, jlet_eq, mg_5, hF9, hM7, jlet_eq, jlet_eq]
    have m2 : M2 0 2 = nI m := by rw [g4.2.1 2 (by decide) (by decide) (by decide) (by decide) (by decide), cpB_row (by decide), b8 2 (by decide) (by decide), nM.2 2 (by decide) (by decide) (by decide)]; exact hm1
    have e0 : cpB M8 0 8 0 = M8 0 := cpB_row (by decide)
    rcases g5 with ⟨q1, q2, q3, q4, q5⟩ | ⟨q1, q2, q3⟩
    · obtain ⟨M3, w1, w2⟩ := z_keeps (N := 3000) (by decide) m2 hm
      have z2 : M2 0 0 = 0 := by rw [g4.2.1 0 (by decide) (by decide) (by decide) (by decide) (by decide), e0]; exact t8
      have w15 : M3 0 15 = nI n := by rw [w2.2.1 15 (by decide), g4.2.1 15 (by decide) (by decide) (by decide) (by decide) (by decide), e0, b8 15 (by decide) (by decide)]; exact f4
      have w0 : M3 0 0 = 0 := (w2.2.1 0 (by decide)).trans z2
      refine ⟨3000, (0, v, hClose (u1 (hOpen (u1 S 9 F9)) 0 (S' 0))), 3000, (M3 0 15, M3), ?_, ?_, Or.inl rfl, ?_, fun _ => ?_, ?_⟩
      · rw [hcl, q1, if_pos (zI_pos (by have := hX.2.1; omega))]
      · rw [hrr, hm', q2, w1, Option.bind_some]
      · show M3 0 0 = hk_read 0
        rw [w0]; rfl
      · show v = M3 0 15
        rw [w15]; exact q1
      · refine rel_done RSea_loc hRel hm c4 g4 (by rw [q4, e0]) (by rw [q5, e0]) q3 ?_
        rw [stF_same z2]
        exact w2
    · have hb : hBack (u1 (hOpen (u1 S 9 F9)) 0 (S' 0)) = u1 (hOpen (u1 S 9 F9)) 0 (S 0) := by
        have o := open_rest (T := S' 0) hm c4
        have hp : ph (u1 (hOpen (u1 S 9 F9)) 0 (S' 0)) m = ph (u1 S 9 F9) m := by
          unfold ph
          rw [kof_congr (S := u1 S 9 F9) (by rw [o.2.2.2.2])]
        unfold hBack
        rw [o.2.2.2.2, c4, if_pos (zI_inb (by omega) (by omega)), zI_nat (by omega), hp, o.2.1, u1_u1, u1_ne (by decide)]
      have o5 := (open_rest (T := S 0) hm c4).2.2.2.2
      have hcb : cpB (stF M2 0 2) 8 0 = stF (cpB M2 8 0) 0 2 := cpB_stF
      have hrf : F_X9_read 3000 M = some (0, stF (cpB M2 8 0) 0 2) := by
        rw [hrr, hm', q2, z_copies (v1 := 8) (v2 := 0) 8 0 rfl rfl (by omega) (by omega) (by decide), Option.bind_some, jlet_eq]
      have hT := hRel.2.2.2.1
      have s00 : u1 S 9 F9 0 = S 0 := u1_ne (by decide)
      have fin : ∀ S5, F_X8_keepRefusal 3000 (u1 (hOpen (u1 S 9 F9)) 0 (S 0)) v = some S5 → Rel RSea S5 (cpB (stF M2 0 2) 8 0) → ∃ (N1 : Nat) (rc : _) (N2 : Nat) (rm : _), F_X8_read N1 S = some rc ∧ F_X9_read N2 M = some rm ∧ (rc.1 = 0 ∨ rc.1 = 2 ∨ rc.1 = 3) ∧ rm.2 0 0 = hk_read rc.1 ∧ (rc.1 = 0 → rc.2.1 = rm.1) ∧ Rel RSea rc.2.2 rm.2 := fun S5 a1 a2 => by
        rw [hcb] at a2
        refine ⟨3000, (3, 0, S5), 3000, (0, stF (cpB M2 8 0) 0 2), ?_, hrf, Or.inr (Or.inr rfl), ?_, fun q => absurd (show (3 : Int32) = 0 from q) (by decide), a2⟩
        · rw [hcl, if_neg (Int32.not_le.mpr q1), hb, a1, Option.bind_some]
        · show stF (cpB M2 8 0) 0 2 0 0 = hk_read 3
          rw [stF_eq]; rfl
      rcases q3 with ⟨y1, y2, y3⟩ | ⟨a, d, y1, y2, y3, y4, y5, y6⟩
      · refine fin (u1 (hOpen (u1 S 9 F9)) 0 (S 0)) ?_ ?_
        · unfold F_X8_keepRefusal
          rw [if_pos (by rcases y1 with q | q | q <;> rw [q] <;> decide)]
        · refine rel_back RSea_loc hRel (u1 (hOpen (u1 S 9 F9)) 0 (S 0)) hm c4 (by rw [s00]) _ (fun _ _ => rfl) (fun x _ _ => by rw [o5]) (fun r _ => by rw [o5]) g4 2 ?_
          unfold RlT
          rw [cpB_row (by decide), stF_o (by decide), stF_o (by decide), y2, y3, o5, e0]
          exact hT
      · refine fin (stT (stT (u1 (hOpen (u1 S 9 F9)) 0 (S 0)) 1 (nI a)) 2 (nI d)) (by rw [y4]; exact z_keepRef y1 y2 y3) ?_
        refine rel_back RSea_loc hRel (u1 (hOpen (u1 S 9 F9)) 0 (S 0)) hm c4 (by rw [s00]) _ (fun j hj => by rw [stT_ne hj, stT_ne hj]) (fun x h1 h2 => by rw [stT_9, stF_o h2, stT_9, stF_o h1, o5]) (fun r hr => by rw [stT_9, stF_ne hr, stT_9, stF_ne hr, o5]) g4 2 ?_
        unfold RlT
        refine Or.inr ⟨?_, ?_, ⟨a, ?_, y1, y2⟩⟩
        · rw [cpB_row (by decide), stF_o (by decide), y5, stT_9, stF_o (by decide), stT_9, stF_eq]
        · rw [cpB_row (by decide), stF_o (by decide), y6, stT_9, stF_eq]
        · rw [cpB_row (by decide), stF_o (by decide), y5]
