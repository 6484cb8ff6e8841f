/-- a change on both sides: from what the seasons' operations do -/
theorem z_change {RS : RM → (Nat → Int32) → Prop} (hL : Loc RS) {K : List Int32} {N : Nat} (hN : 241 < N) {f g : RM → Option (Int32 × RM)} (H : ∀ (T M : RM), RS T (blk M 0) → ∃ rc rm, f T = some rc ∧ g M = some rm ∧ OpR RS K T M rc rm) (a b c : Int32) {S : CS} {M : RM} (h : Rel RS S M) :
    ∃ rc rm, cW N S f = some rc ∧ rW N M g a b c = some rm ∧ rc.1 ∈ K ∧ ((rc.1 = 0 ∧ rm.2 0 0 = 0 ∧ rc.2.1 = rm.1) ∨ (rc.1 = 1 ∧ rm.2 0 0 = 1) ∨ (rc.1 = 2 ∧ rm.2 0 0 = a) ∨ (rc.1 = 3 ∧ rm.2 0 0 = b) ∨ (rc.1 = 4 ∧ rm.2 0 0 = c)) ∧ Rel RS rc.2.2 rm.2 := by
  have h' := h
  obtain ⟨h0, ⟨n, hn, hn1, hn2, hh⟩, hs, ht, hx⟩ := h'
  have hr0 : RS (S 0) (blk (cpB M 0 8) 0) := hL _ _ _ (fun k hk => by rw [cpB_ne hk (by decide)]) h0
  obtain ⟨rc, rm, e1, e2, hK, hF, hO⟩ := H (S 0) (cpB M 0 8) hr0
  have hop : hOpen S 0 = S 0 := by
    rw [hOpen_eq hn hn2]
    have := ph_2 S n
    exact u1_ne (by omega)
  have hm2 : rm.2 0 2 = nI n := by rw [hF.2.1 2 (by decide) (by decide) (by decide) (by decide) (by decide), cpB_row (by decide)]; exact hn1
  have cx : cW N S f = (F_X8_closeChange N (u1 (hOpen S) 0 rc.2) rc.1).bind (fun r5 => if r5.1 = 0 then some ((0 : Int32), r5.2.1, r5.2.2) else some (r5.1, (0 : Int32), r5.2.2)) := by
    unfold cW
    simp only [jlet]
    rw [hop, e1, Option.bind_some]
  have rx : rW N M g a b c = (F_X9_ends N rm.2 rm.1 a b c).bind (fun r3 => some (r3.1, r3.2)) := by
    unfold rW
    rw [z_begins hN, Option.bind_some, e2, Option.bind_some]
  rw [cx, rx]
  have key : ∀ (w th : Int32), w ≠ 0 → w ∈ K → rc.2 = S 0 → F_X8_closeChange N (u1 (hOpen S) 0 rc.2) rc.1 = some (w, 0, u1 (hOpen S) 0 rc.2) → rm.2 0 4 = M 0 4 → rm.2 0 5 = M 0 5 → ((rm.1 = 1 ∧ th = 1) ∨ (rm.1 = 2 ∧ th = a) ∨ (rm.1 = 3 ∧ th = b) ∨ (rm.1 = 4 ∧ th = c)) → ((w = 1 ∧ th = 1) ∨ (w = 2 ∧ th = a) ∨ (w = 3 ∧ th = b) ∨ (w = 4 ∧ th = c)) →
      ∃ rc' rm', (F_X8_closeChange N (u1 (hOpen S) 0 rc.2) rc.1).bind (fun r5 => if r5.1 = 0 then some ((0 : Int32), r5.2.1, r5.2.2) else some (r5.1, (0 : Int32), r5.2.2)) = some rc' ∧ (F_X9_ends N rm.2 rm.1 a b c).bind (fun r3 => some (r3.1, r3.2)) = some rm' ∧ rc'.1 ∈ K ∧ ((rc'.1 = 0 ∧ rm'.2 0 0 = 0 ∧ rc'.2.1 = rm'.1) ∨ (rc'.1 = 1 ∧ rm'.2 0 0 = 1) ∨ (rc'.1 = 2 ∧ rm'.2 0 0 = a) ∨ (rc'.1 = 3 ∧ rm'.2 0 0 = b) ∨ (rc'.1 = 4 ∧ rm'.2 0 0 = c)) ∧ Rel RS rc'.2.2 rm'.2 := by
    intro w th hw hwK hT hcl h4 h5 hth hwth
    refine ⟨(w, 0, u1 (hOpen S) 0 rc.2), (0, cpB (stF rm.2 0 th) 8 0), ?_, ?_, hwK, ?_, ?_⟩
    · rw [hcl, Option.bind_some, if_neg hw]
    · rw [z_ends1 hN hth]; rfl
    · have e : cpB (stF rm.2 0 th) 8 0 0 0 = th := by rw [cpB_row (by decide), stF_eq]
      show (w = 0 ∧ cpB (stF rm.2 0 th) 8 0 0 0 = 0 ∧ _) ∨ (w = 1 ∧ cpB (stF rm.2 0 th) 8 0 0 0 = 1) ∨ (w = 2 ∧ cpB (stF rm.2 0 th) 8 0 0 0 = a) ∨ (w = 3 ∧ cpB (stF rm.2 0 th) 8 0 0 0 = b) ∨ (w = 4 ∧ cpB (stF rm.2 0 th) 8 0 0 0 = c)
      rw [e]
      exact Or.inr hwth
    · have o5 := (open_rest (T := S 0) hn hn2).2.2.2.2
      rw [hT]
      refine rel_back hL h (u1 (hOpen S) 0 (S 0)) hn hn2 rfl _ (fun _ _ => rfl) (fun x _ _ => by rw [o5]) (fun r _ => by rw [o5]) hF th ?_
      unfold RlT
      rw [cpB_row (by decide), stF_o (by decide), stF_o (by decide), h4, h5, o5]
      exact ht
  rcases hO with ⟨g1, g2, g3, g4, g5, g6⟩ | ⟨g1, g2, g3, g4⟩ | ⟨g1, g2, a', d, g3, g4, g5, g6, g7, g8⟩
  · obtain ⟨M3, q1, q2, q3⟩ := z_ends0 hN hm2 hn a b c
    rw [g2] at hK
    refine ⟨(0, rc.1, hClose (u1 (hOpen S) 0 rc.2)), (rm.2 0 6, M3), ?_, ?_, hK, Or.inl ⟨rfl, q2, g3.symm⟩, ?_⟩
    · rw [z_close_ok g1, Option.bind_some, if_pos rfl]
    · rw [g2, q1]; rfl
    · exact rel_done hL h hn hn2 hF (g5.trans (by rw [cpB_row (by decide)])) (g6.trans (by rw [cpB_row (by decide)])) g4 q3
  · have g2' : rm.2 0 4 = M 0 4 := g2.trans (by rw [cpB_row (by decide)])
    have g3' : rm.2 0 5 = M 0 5 := g3.trans (by rw [cpB_row (by decide)])
    rcases g4 with ⟨p1, p2⟩ | ⟨p1, p2⟩ | ⟨p1, p2⟩
    · exact key 1 1 (by decide) (p2 ▸ hK) g1 (by rw [p1]; exact z_close_1) g2' g3' (Or.inl ⟨p2, rfl⟩) (Or.inl ⟨rfl, rfl⟩)
    · exact key 2 a (by decide) (p2 ▸ hK) g1 (by rw [p1]; exact z_close_2) g2' g3' (Or.inr (Or.inl ⟨p2, rfl⟩)) (Or.inr (Or.inl ⟨rfl, rfl⟩))
    · exact key 3 b (by decide) (p2 ▸ hK) g1 (by rw [p1]; exact z_close_3) g2' g3' (Or.inr (Or.inr (Or.inl ⟨p2, rfl⟩))) (Or.inr (Or.inr (Or.inl ⟨rfl, rfl⟩)))
  · have o5 := (open_rest (T := S 0) hn hn2).2.2.2.2
    refine ⟨(4, 0, stT (stT (u1 (hOpen S) 0 rc.2) 1 (nI a')) 2 (nI d)), (0, cpB (stF rm.2 0 c) 8 0), ?_, ?_, g2 ▸ hK, ?_, ?_⟩
    · rw [g6, z_close_ref g3 g4 g5, Option.bind_some, if_neg (show ¬ (4 : Int32) = 0 by decide)]
    · rw [g2, z_ends1 hN (Or.inr (Or.inr (Or.inr ⟨rfl, rfl⟩)))]; rfl
    · refine Or.inr (Or.inr (Or.inr (Or.inr ⟨rfl, ?_⟩)))
      show cpB (stF rm.2 0 c) 8 0 0 0 = c
      rw [cpB_row (by decide), stF_eq]
    · rw [g1]
      show Rel RS (stT (stT (u1 (hOpen S) 0 (S 0)) 1 (nI a')) 2 (nI d)) (cpB (stF rm.2 0 c) 8 0)
      refine rel_back hL h (u1 (hOpen S) 0 (S 0)) hn hn2 rfl _ (fun j hj => by rw [stT_ne hj, stT_ne hj]) (fun x h1 h2 => by rw [stT_9, stF_o h2, stT_9, stF_o h1, o5]) (fun r hr => by rw [stT_9, stF_ne hr, stT_9, stF_ne hr, o5]) hF c ?_
      unfold RlT
      refine Or.inr ⟨?_, ?_, ⟨a', ?_, g3, g4⟩⟩
      · rw [cpB_row (by decide), stF_o (by decide), g7, stT_9, stF_o (by decide), stT_9, stF_eq]
      · rw [cpB_row (by decide), stF_o (by decide), g8, stT_9, stF_eq]
      · rw [cpB_row (by decide), stF_o (by decide), g7]
