/-! a season of the class and a block of the reference -/
abbrev Rq : Type := Int32 × Int32 × Int32
def rqA (A : Nat → Int32) (n : Nat) : List Rq := (List.range n).map (fun q => (A (181 + 3 * q), A (181 + 3 * q + 1), A (181 + 3 * q + 2)))
def rqT (T : RM) (n : Nat) : List Rq := (List.range n).map (fun q => (T 15 q, T 16 q, T 17 q))
def forK (k : Nat) (l : List Rq) : List Rq := l.filter (fun x => decide (x.1 = nI k))
/-- by priority from 9 down to 0, those of one priority in their order -/
def byP (l : List Rq) : List Rq := ([9, 8, 7, 6, 5, 4, 3, 2, 1, 0] : List Nat).flatMap (fun p => l.filter (fun x => decide (x.2.2 = nI p)))
def RCnt (T : RM) (A : Nat → Int32) (np nf nu nr : Nat) : Prop := np ≤ 8 ∧ nf ≤ 24 ∧ nu ≤ 10 ∧ nr ≤ 20 ∧ T 0 2 = nI np ∧ A 5 = nI np ∧ T 0 3 = nI nf ∧ A 38 = nI nf ∧ T 0 4 = nI nu ∧ A 159 = nI nu ∧ T 0 5 = nI nr ∧ A 180 = nI nr
def RTop (T : RM) (A : Nat → Int32) : Prop := T 0 0 = A 3 ∧ T 0 1 = A 4 ∧ (∃ z, A 3 = nI z ∧ z ≤ 20) ∧ (∃ z, A 4 = nI z ∧ z ≤ 99) ∧ ∀ s, s < 3 → T 1 s = A s ∧ ∃ z, A s = nI z ∧ z ≤ 99
def RPro (T : RM) (A : Nat → Int32) (np nf : Nat) : Prop := ∀ p, p < np → (T 2 p = A (6 + 4 * p + 0) ∧ T 3 p = A (6 + 4 * p + 1) ∧ T 4 p = A (6 + 4 * p + 2) ∧ T 5 p = A (6 + 4 * p + 3)) ∧ ((∃ z, A (6 + 4 * p + 0) = nI z ∧ z ≤ 9) ∧ (∃ z, A (6 + 4 * p + 1) = nI z ∧ z ≤ 6) ∧ (∃ z, A (6 + 4 * p + 2) = nI z ∧ z ≤ 50) ∧ ∃ z, A (6 + 4 * p + 3) = nI z ∧ z ≤ 100) ∧
  ∃ m, T 6 p = nI m ∧ m < 2 ^ 30 ∧ ∀ d, d < 30 → (m.testBit d = true ↔ ∃ k, k < nf ∧ A (39 + 4 * k + 0) = nI p ∧ A (39 + 4 * k + 2) = nI d)
def RPer (T : RM) (A : Nat → Int32) (np nf nu : Nat) : Prop := ∀ k, k < nf → (T 7 k = A (39 + 4 * k + 0) ∧ T 8 k = A (39 + 4 * k + 1) ∧ T 9 k = A (39 + 4 * k + 2) ∧ T 10 k = A (39 + 4 * k + 3) ∧ T 11 k = heldS A k nu ∧ T 12 k = A (135 + k)) ∧
  (∃ p, p < np ∧ A (39 + 4 * k + 0) = nI p) ∧ (∃ d, d < 30 ∧ A (39 + 4 * k + 2) = nI d) ∧ (∃ b, A (135 + k) = nI b ∧ b < 2 ^ nu) ∧ ∃ s w h z, s < 3 ∧ A (39 + 4 * k + 1) = nI s ∧ A (39 + 4 * k + 3) = nI w ∧ heldS A k nu = nI h ∧ A s = nI z ∧ z ≤ 99 ∧ w + h ≤ z
def RApt (A : Nat → Int32) (nf : Nat) : Prop := ∀ i j, i < nf → j < nf → i ≠ j → A (39 + 4 * i + 2) = A (39 + 4 * j + 2) → A (39 + 4 * i + 1) ≠ A (39 + 4 * j + 1) ∧ A (39 + 4 * i + 0) ≠ A (39 + 4 * j + 0)
def RSub (T : RM) (A : Nat → Int32) (nu : Nat) : Prop := ∀ u, u < nu → T 13 u = A (160 + 2 * u + 0) ∧ T 14 u = A (160 + 2 * u + 1) ∧ (∃ z, A (160 + 2 * u + 0) = nI z ∧ 1 ≤ z ∧ z ≤ 6) ∧ ∃ z, A (160 + 2 * u + 1) = nI z ∧ z ≤ 2
def RReq (T : RM) (A : Nat → Int32) (nf nr : Nat) : Prop := (∀ k, k < nf → forK k (rqT T nr) = byP (forK k (rqA A nr))) ∧ (∀ q, q < nr → (∃ k, k < nf ∧ T 15 q = nI k) ∧ (∃ k, k < nf ∧ A (181 + 3 * q) = nI k) ∧ (∃ z, A (181 + 3 * q + 1) = nI z ∧ 1 ≤ z ∧ z ≤ 99) ∧ ∃ z, A (181 + 3 * q + 2) = nI z ∧ z ≤ 9)
def sumN (f : Nat → Nat) : Nat → Nat
  | 0 => 0
  | n + 1 => sumN f n + f n
theorem sumN_congr {f g : Nat → Nat} {n : Nat} (h : ∀ k, k < n → f k = g k) : sumN f n = sumN g n := by
  induction n with
  | zero => rfl
  | succ n ih => rw [sumN, sumN, ih (fun k hk => h k (Nat.lt_succ_of_lt hk)), h n (Nat.lt_succ_self n)]
def nv (x : Int32) : Nat := x.toNatClampNeg
/-- the crews on a date, from the productions' sets of dates -/
def crewN (D C : Nat → Int32) (np d : Nat) : Nat := sumN (fun p => if (nv (D p)).testBit d = true then nv (C p) else 0) np
def RCrw (T : RM) (np : Nat) : Prop := ∀ d, d < 30 → crewN (T 6) (T 3) np d ≤ nv (T 0 0)
abbrev RS4 (T : RM) (A : Nat → Int32) (np nf nu nr : Nat) : Prop := RCnt T A np nf nu nr ∧ RTop T A ∧ RPro T A np nf ∧ RPer T A np nf nu ∧ RApt A nf ∧ RSub T A nu ∧ RReq T A nf nr ∧ RCrw T np
def RSea0 (T : RM) (A : Nat → Int32) : Prop := ∃ np nf nu nr : Nat, RS4 T A np nf nu nr
/-- no more than a block -/
def tr (A : Nat → Int32) : Nat → Int32 := fun k => if k < 241 then A k else 0
theorem tr_lt {A : Nat → Int32} {k : Nat} (h : k < 241) : tr A k = A k := if_pos h
def RSea (T : RM) (A : Nat → Int32) : Prop := RSea0 T (tr A)
theorem RSea_loc : Loc RSea := by
  intro T A A' h hr
  unfold RSea
  have e : tr A' = tr A := by
    funext k
    unfold tr
    by_cases hk : k < 241
    · rw [if_pos hk, if_pos hk, h k hk]
    · rw [if_neg hk, if_neg hk]
  rw [e]
  exact hr
/-- the reference's cells, by the block -/
theorem tr_M {M : RM} {k : Nat} (h : k < 241) : M 1 k = tr (blk M 0) k := by
  rw [tr_lt h]
  unfold blk
  rw [Nat.mul_zero, Nat.zero_add]
theorem rsea_0 : RSea (mT0 0) (blk mM0 0) := by
  refine ⟨0, 0, 0, 0, ?_, ?_, ?_, ?_, ?_, ?_, ?_, fun d hd => Nat.zero_le _⟩
  · refine ⟨by decide, by decide, by decide, by decide, rfl, rfl, rfl, rfl, rfl, rfl, rfl, rfl⟩
  · refine ⟨rfl, rfl, ⟨6, rfl, by decide⟩, ⟨20, rfl, by decide⟩, fun s hs => ?_⟩
    rcases (show s = 0 ∨ s = 1 ∨ s = 2 by omega) with rfl | rfl | rfl
    · exact ⟨rfl, 40, rfl, by decide⟩
    · exact ⟨rfl, 60, rfl, by decide⟩
    · exact ⟨rfl, 80, rfl, by decide⟩
  · exact fun p hp => absurd hp (Nat.not_lt_zero p)
  · exact fun p hp => absurd hp (Nat.not_lt_zero p)
  · exact fun i j hi => absurd hi (Nat.not_lt_zero i)
  · exact fun p hp => absurd hp (Nat.not_lt_zero p)
  · exact ⟨fun k hk => absurd hk (Nat.not_lt_zero k), fun k hk => absurd hk (Nat.not_lt_zero k)⟩
/-- at the start -/
theorem rel_0 : Rel RSea mT0 mM0 := by
  refine ⟨rsea_0, ⟨0, by decide, rfl, rfl, fun i hi => absurd hi (Nat.not_lt_zero i)⟩, ⟨rfl, Or.inl rfl⟩, Or.inl ⟨rfl, rfl⟩, rfl, 0, by decide, rfl, rfl, fun j hj => absurd hj (Nat.not_lt_zero j)⟩
