/-! class and reference, related over any relation RS of their seasons -/
section REL
abbrev CS : Type := Nat → Nat → Nat → Int32
abbrev RM : Type := Nat → Nat → Int32
/-- the history's places lie apart -/
theorem ph_ne {S : CS} {i j : Nat} (hi : i < 7) (hj : j < 7) (h : i ≠ j) : ph S i ≠ ph S j := by
  unfold ph
  have hk : kof S < 7 := Nat.mod_lt _ (by decide)
  generalize kof S = k at hk ⊢
  omega
theorem ph_2 (S : CS) (i : Nat) : 2 ≤ ph S i ∧ ph S i ≤ 8 := by
  unfold ph
  omega
def RlT (S : CS) (M : RM) : Prop := ((M 0 4 = 0 ∧ S 9 0 1 = -1) ∨ (M 0 4 = S 9 0 1 ∧ M 0 5 = S 9 0 2 ∧ ∃ a, M 0 4 = nI a ∧ 1 ≤ a ∧ a ≤ 9))
def RlX (S : CS) (M : RM) : Prop := S 9 0 3 = M 0 11 ∧ ∃ len : Nat, len ≤ 60 ∧ S 9 0 5 = nI len ∧ M 0 10 = nI len ∧ ∀ j, j < len → S 9 1 j = M 2 j ∧ isC (S 9 1 j) = true
def RlH (RS : RM → (Nat → Int32) → Prop) (S : CS) (M : RM) : Prop := ∃ n : Nat, n ≤ 6 ∧ M 0 2 = nI n ∧ S 9 0 4 = nI n ∧ ∀ i, i < n → RS (S (ph S i)) (blk M (i + 1))
def RlS (RS : RM → (Nat → Int32) → Prop) (S : CS) (M : RM) : Prop := M 0 3 = S 9 0 0 ∧ (S 9 0 0 = 0 ∨ (S 9 0 0 = 1 ∧ RS (S 1) (blk M 7)))
/-- the class and the reference stand alike -/
def Rel (RS : RM → (Nat → Int32) → Prop) (S : CS) (M : RM) : Prop := RS (S 0) (blk M 0) ∧ RlH RS S M ∧ RlS RS S M ∧ RlT S M ∧ RlX S M
/-- RS looks at no more than a block -/
def Loc (RS : RM → (Nat → Int32) → Prop) : Prop := ∀ (T : RM) (A A' : Nat → Int32), (∀ k, k < 241 → A' k = A k) → RS T A → RS T A'
/-- what an operation of the reference's present season leaves as it was -/
def FrE (M M' : RM) : Prop := (∀ r, r ≠ 0 → r ≠ 1 → M' r = M r) ∧ (∀ x, x ≠ 4 → x ≠ 5 → x ≠ 6 → x ≠ 7 → x ≠ 8 → M' 0 x = M 0 x) ∧ ∀ b k, 1 ≤ b → b ≤ 8 → k < 241 → blk M' b k = blk M b k
def OpR (RS : RM → (Nat → Int32) → Prop) (K : List Int32) (T : RM) (M : RM) (rc : Int32 × RM) (rm : Int32 × RM) : Prop :=
  rm.1 ∈ K ∧ FrE M rm.2 ∧
  ((0 ≤ rc.1 ∧ rm.1 = 0 ∧ rm.2 0 6 = rc.1 ∧ RS rc.2 (blk rm.2 0) ∧ rm.2 0 4 = M 0 4 ∧ rm.2 0 5 = M 0 5) ∨
   (rc.2 = T ∧ rm.2 0 4 = M 0 4 ∧ rm.2 0 5 = M 0 5 ∧ ((rc.1 = -1 ∧ rm.1 = 1) ∨ (rc.1 = -2 ∧ rm.1 = 2) ∨ (rc.1 = -3 ∧ rm.1 = 3))) ∨
   (rc.2 = T ∧ rm.1 = 4 ∧ ∃ a d : Nat, 1 ≤ a ∧ a ≤ 9 ∧ d < 1000 ∧ rc.1 = jRef (nI a) (nI d) ∧ rm.2 0 4 = nI a ∧ rm.2 0 5 = nI d))
/-- a change of the class -/
def cW (N : Nat) (S : CS) (f : RM → Option (Int32 × RM)) : Option (Int32 × Int32 × CS) :=
  jlet (hOpen S) (fun M2 => (f (M2 0)).bind (fun r3 => jlet (u1 M2 0 r3.2) (fun M4 => (F_X8_closeChange N M4 r3.1).bind (fun r5 => if r5.1 = 0 then some ((0 : Int32), r5.2.1, r5.2.2) else some (r5.1, (0 : Int32), r5.2.2)))))
/-- a change of the reference -/
def rW (N : Nat) (M : RM) (g : RM → Option (Int32 × RM)) (a b c : Int32) : Option (Int32 × RM) :=
  (F_X9_begins N M).bind (fun r1 => (g r1).bind (fun r2 => (F_X9_ends N r2.2 r2.1 a b c).bind (fun r3 => some (r3.1, r3.2))))
theorem hOpen_eq {S : CS} {n : Nat} (hn : n ≤ 6) (h : S 9 0 4 = nI n) : hOpen S = u1 S (ph S n) (S 0) := by
  unfold hOpen
  rw [h, if_pos (zI_inb (by omega) (by omega)), zI_nat (by omega)]
theorem kof_congr {S S' : CS} (h : S' 9 9 0 = S 9 9 0) : kof S' = kof S := by unfold kof; rw [h]
theorem stT_9 {S : CS} {k : Nat} {v : Int32} : stT S k v 9 = stF (S 9) k v := u1_eq
theorem stT_ne {S : CS} {k j : Nat} {v : Int32} (h : j ≠ 9) : stT S k v j = S j := u1_ne h
/-- what a try leaves of the class's history: only the place behind it is other -/
theorem open_rest {S : CS} {n : Nat} {T : RM} (hn : n ≤ 6) (h : S 9 0 4 = nI n) : (∀ i, i < n → u1 (hOpen S) 0 T (ph S i) = S (ph S i)) ∧ u1 (hOpen S) 0 T (ph S n) = S 0 ∧ u1 (hOpen S) 0 T 0 = T ∧ u1 (hOpen S) 0 T 1 = S 1 ∧ u1 (hOpen S) 0 T 9 = S 9 := by
  rw [hOpen_eq hn h]
  have h2 := ph_2 S n
  refine ⟨fun i hi => ?_, ?_, u1_eq, ?_, ?_⟩
  · have h3 := ph_2 S i
    rw [u1_ne (by omega), u1_ne (ph_ne (by omega) (by omega) (by omega))]
  · rw [u1_ne (by omega), u1_eq]
  · rw [u1_ne (by omega), u1_ne (by omega)]
  · rw [u1_ne (by omega), u1_ne (by omega)]
end REL
