/-! what holds of a season of the class, and how a change comes to it -/
theorem nv_upd {f : Nat → Int32} {i x : Nat} {v : Int32} : nv (upd f i v x) = if x = i then nv v else nv (f x) := by
  by_cases h : x = i
  · subst h; rw [upd_eq, if_pos rfl]
  · rw [upd_ne h, if_neg h]
def Ok (Z : Nat → Int32) (n b : Nat) : Prop := ∀ k, k < n → Z k = nI (nv (Z k)) ∧ nv (Z k) < b
theorem ok_mk {x : Int32} {z b : Nat} (h : x = nI z) (hz : z < b) (hb : b ≤ 2 ^ 31) : x = nI (nv x) ∧ nv x < b := by
  have e : nv x = z := by rw [h]; exact nv_nI (by omega)
  rw [e]; exact ⟨h, hz⟩
theorem ok_up {Z : Nat → Int32} {n b b' : Nat} (h : Ok Z n b) (hb : b ≤ b') : Ok Z n b' := fun k hk => ⟨(h k hk).1, Nat.lt_of_lt_of_le (h k hk).2 hb⟩
theorem ok_app {Z : Nat → Int32} {n b z : Nat} (h : Ok Z n b) (hz : z < b) (hb : b ≤ 2 ^ 31) : Ok (upd Z n (nI z)) (n + 1) b := by
  intro k hk
  by_cases e : k = n
  · subst e; exact ok_mk upd_eq hz hb
  · rw [upd_ne e]; exact h k (by omega)
theorem ok_set {Z : Nat → Int32} {n b z i : Nat} (h : Ok Z n b) (hz : z < b) (hb : b ≤ 2 ^ 31) : Ok (upd Z i (nI z)) n b := by
  intro k hk
  by_cases e : k = i
  · subst e; exact ok_mk upd_eq hz hb
  · rw [upd_ne e]; exact h k hk
theorem ok_D {D : Nat → Int32} {np : Nat} (h : Ok D np (2 ^ 30)) : DOk D np := fun p hp => ⟨_, (h p hp).1, (h p hp).2⟩
theorem ok_Z {Z : Nat → Int32} {np b : Nat} (h : Ok Z np (b + 1)) : ZOk Z np b := fun p hp => ⟨_, (h p hp).1, Nat.le_of_lt_succ (h p hp).2⟩
def SCnt (np nf nu nr : Nat) : Prop := np ≤ 8 ∧ nf ≤ 24 ∧ nu ≤ 10 ∧ nr ≤ 20
def SSca (T : RM) (np nf nu nr : Nat) : Prop := T 0 0 = nI 6 ∧ T 0 1 = nI 20 ∧ T 0 2 = nI np ∧ T 0 3 = nI nf ∧ T 0 4 = nI nu ∧ T 0 5 = nI nr ∧ ∀ s, s < 3 → T 1 s = nI (40 + 20 * s)
def SPro (T : RM) (np : Nat) : Prop := Ok (T 2) np 10 ∧ Ok (T 3) np 7 ∧ Ok (T 4) np 51 ∧ Ok (T 5) np 101 ∧ Ok (T 6) np (2 ^ 30)
def SPer (T : RM) (np nf nu : Nat) : Prop := Ok (T 7) nf np ∧ Ok (T 8) nf 3 ∧ Ok (T 9) nf 30 ∧ Ok (T 10) nf 100 ∧ Ok (T 11) nf 100 ∧ Ok (T 12) nf (2 ^ nu)
def SSub (T : RM) (nu : Nat) : Prop := Ok (T 13) nu 7 ∧ Ok (T 14) nu 3
def SReq (T : RM) (nf nr : Nat) : Prop := Ok (T 15) nr nf ∧ Ok (T 16) nr 100 ∧ Ok (T 17) nr 10
/-- the sets of dates are those of the performances -/
def SBit (T : RM) (np nf : Nat) : Prop := ∀ p, p < np → ∀ d, d < 30 → ((nv (T 6 p)).testBit d = true ↔ ∃ k, k < nf ∧ nv (T 7 k) = p ∧ nv (T 9 k) = d)
def hldN (T : RM) (k nu : Nat) : Nat := sumN (fun u => if (nv (T 12 k)).testBit u = true then nv (T 13 u) else 0) nu
/-- held seats are those of the subscriptions that hold; sold and held find room -/
def SHld (T : RM) (nf nu : Nat) : Prop := ∀ k, k < nf → nv (T 11 k) = hldN T k nu ∧ nv (T 10 k) + nv (T 11 k) ≤ 40 + 20 * nv (T 8 k)
def SApt (T : RM) (nf : Nat) : Prop := ∀ i j, i < nf → j < nf → i ≠ j → nv (T 9 i) = nv (T 9 j) → nv (T 8 i) ≠ nv (T 8 j) ∧ nv (T 7 i) ≠ nv (T 7 j)
def SPri (T : RM) (nr : Nat) : Prop := ∀ i j, i < j → j < nr → nv (T 15 i) = nv (T 15 j) → nv (T 17 j) ≤ nv (T 17 i)
def SCrw (T : RM) (np : Nat) : Prop := ∀ d, d < 30 → crewN (T 6) (T 3) np d ≤ 6
def SLod (T : RM) (np : Nat) : Prop := ∀ d, d < 30 → loadN (T 6) (T 2) np d ≤ 20
def Inv (T : RM) (np nf nu nr : Nat) : Prop := SCnt np nf nu nr ∧ SSca T np nf nu nr ∧ SPro T np ∧ SPer T np nf nu ∧ SSub T nu ∧ SReq T nf nr ∧ SBit T np nf ∧ SHld T nf nu ∧ SApt T nf ∧ SPri T nr ∧ SCrw T np ∧ SLod T np
theorem inv_0 : Inv (mT0 0) 0 0 0 0 := by
  have z : ∀ {f : Nat → Int32} {b : Nat}, Ok f 0 b := fun k hk => absurd hk (Nat.not_lt_zero k)
  refine ⟨by unfold SCnt; omega, ⟨rfl, rfl, rfl, rfl, rfl, rfl, fun s hs => ?_⟩, ⟨z, z, z, z, z⟩, ⟨z, z, z, z, z, z⟩, ⟨z, z⟩, ⟨z, z, z⟩, fun p hp => absurd hp (Nat.not_lt_zero p), fun p hp => absurd hp (Nat.not_lt_zero p), fun p _ hp => absurd hp (Nat.not_lt_zero p), fun p q _ hp => absurd hp (Nat.not_lt_zero q), fun d _ => Nat.zero_le _, fun d _ => Nat.zero_le _⟩
  rcases (show s = 0 ∨ s = 1 ∨ s = 2 by omega) with rfl | rfl | rfl <;> rfl
/-! the wrapper of a change -/
theorem hOpen_0 (S : CS) : hOpen S 0 = S 0 := by
  unfold hOpen
  by_cases h : inb (S 9 0 4) 7 = true
  · rw [if_pos h]
    have := ph_2 S (S 9 0 4).toNatClampNeg
    exact u1_ne (by omega)
  · rw [if_neg h]
theorem hClose_0 (S : CS) : hClose S 0 = S 0 := by
  unfold hClose
  by_cases h : 6 ≤ S 9 0 4
  · rw [if_pos h]; exact u1_ne (by decide)
  · rw [if_neg h]; exact u1_ne (by decide)
def cW (N : Nat) (S : CS) (f : RM → Option (Int32 × RM)) : Option (Int32 × Int32 × CS) :=
  jlet (hOpen S) (fun M2 => (f (M2 0)).bind (fun r3 => jlet (u1 M2 0 r3.2) (fun M4 => (F_X8_closeChange N M4 r3.1).bind (fun r5 => if r5.1 = 0 then some ((0 : Int32), r5.2.1, r5.2.2) else some (r5.1, (0 : Int32), r5.2.2)))))
/-- a change that is done or refused: what build makes of it -/
theorem cw_hp {N v a d : Nat} {S : CS} {T' : RM} {f : RM → Option (Int32 × RM)} (h : (v < 2 ^ 31 ∧ f (S 0) = some (nI v, T')) ∨ (1 ≤ a ∧ a ≤ 9 ∧ d < 1000 ∧ T' = S 0 ∧ f (S 0) = some (jRef (nI a) (nI d), S 0))) : ∃ r, cW N S f = some r ∧ hpB N r = true ∧ r.2.2 0 = T' := by
  have hop := hOpen_0 S
  rcases h with ⟨hv, h⟩ | ⟨ha, ha9, hd, rfl, h⟩
  · refine ⟨(0, nI v, hClose (u1 (hOpen S) 0 T')), ?_, ?_, ?_⟩
    · unfold cW
      rw [jlet_eq, hop, h, Option.bind_some, jlet_eq]
      show (F_X8_closeChange N (u1 (hOpen S) 0 T') (nI v)).bind _ = _
      rw [z_close_ok (zI_pos hv), Option.bind_some, if_pos rfl]
    · unfold hpB
      exact decide_eq_true (Or.inl rfl)
    · show hClose (u1 (hOpen S) 0 T') 0 = T'
      rw [hClose_0, u1_eq]
  · refine ⟨(4, 0, stT (stT (u1 (hOpen S) 0 (S 0)) 1 (nI a)) 2 (nI d)), ?_, ?_, ?_⟩
    · unfold cW
      rw [jlet_eq, hop, h, Option.bind_some, jlet_eq]
      show (F_X8_closeChange N (u1 (hOpen S) 0 (S 0)) (jRef (nI a) (nI d))).bind _ = _
      rw [z_close_ref ha ha9 hd, Option.bind_some, if_neg (show ¬ (4 : Int32) = 0 by decide)]
    · unfold hpB
      refine decide_eq_true (Or.inr ⟨rfl, ?_⟩)
      show (F_Y8_reason N (stT (stT (u1 (hOpen S) 0 (S 0)) 1 (nI a)) 2 (nI d)) 0).isSome = true
      have e : stT (stT (u1 (hOpen S) 0 (S 0)) 1 (nI a)) 2 (nI d) 9 0 1 = nI a := by
        rw [stT_9, stF_o (by decide), stT_9, stF_eq]
      unfold F_Y8_reason
      rw [e, if_neg (show ¬ nI a = -1 from zI_ne_neg (by omega)), if_pos rfl]
      rfl
    · show stT (stT (u1 (hOpen S) 0 (S 0)) 1 (nI a)) 2 (nI d) 0 = S 0
      rw [stT_ne (by decide), stT_ne (by decide), u1_eq]
theorem y_close {N v : Nat} {S : CS} (hv : v < 2 ^ 31) : F_Y8_closeChange N S (nI v) = some (nI v, hClose S) := by
  unfold F_Y8_closeChange
  rw [if_neg (Int32.not_lt.mpr (zI_pos hv)), jlet_eq]
def yW (N : Nat) (S : CS) (f : RM → Option (Int32 × RM)) : Option (Int32 × CS) :=
  jlet (hOpen S) (fun M2 => (f (M2 0)).bind (fun r3 => jlet (u1 M2 0 r3.2) (fun M4 => (F_Y8_closeChange N M4 r3.1).bind (fun r5 => some (r5.1, r5.2)))))
theorem yw_ok {N v : Nat} {S : CS} {T' : RM} {f : RM → Option (Int32 × RM)} (hv : v < 2 ^ 31) (h : f (S 0) = some (nI v, T')) : ∃ r, yW N S f = some r ∧ r.2 0 = T' := by
  refine ⟨(nI v, hClose (u1 (hOpen S) 0 T')), ?_, ?_⟩
  · unfold yW
    rw [jlet_eq, hOpen_0 S, h, Option.bind_some, jlet_eq]
    show (F_Y8_closeChange N (u1 (hOpen S) 0 T') (nI v)).bind _ = _
    rw [y_close hv, Option.bind_some]
  · show hClose (u1 (hOpen S) 0 T') 0 = T'
    rw [hClose_0, u1_eq]
theorem y_addP (N : Nat) (S : CS) (a b c d : Int32) : F_Y8_addProduction N S a b c d = yW N S (fun T => F_X6_makeProduction N T a b c d) := rfl
theorem y_subs (N : Nat) (S : CS) (a : Int32) : F_Y8_subscribe N S a = yW N S (fun T => F_X6_makeSubscription N T a) := rfl
theorem x_perf (N : Nat) (S : CS) (a b c : Int32) : F_X8_perform N S a b c = cW N S (fun T => F_X6_makePerformance N T a b c) := rfl
theorem x_hold (N : Nat) (S : CS) (a b : Int32) : F_X8_hold N S a b = cW N S (fun T => F_X6_holdSeats N T a b) := rfl
theorem x_sell (N : Nat) (S : CS) (a b : Int32) : F_X8_sell N S a b = cW N S (fun T => F_X6_sellSeats N T a b) := rfl
theorem x_requ (N : Nat) (S : CS) (a b c : Int32) : F_X8_request N S a b c = cW N S (fun T => F_X6_makeRequest N T a b c) := rfl
