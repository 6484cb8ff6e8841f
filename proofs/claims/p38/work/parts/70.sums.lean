/-! sums over performances and sums over what they are for -/
def sumI (f : Nat → Int32) : Nat → Int32
  | 0 => 0
  | n + 1 => sumI f n + f n
theorem sum_uniq {Q : Nat → Prop} [∀ k, Decidable (Q k)] {n : Nat} (hu : ∀ i j, i < n → j < n → Q i → Q j → i = j) {b : Prop} [Decidable b] (hb : b ↔ ∃ k, k < n ∧ Q k) (v : Nat) : (if b then v else 0) = sumN (fun k => if Q k then v else 0) n := by
  by_cases h : b
  · rw [if_pos h]
    obtain ⟨k, k1, k2⟩ := hb.mp h
    have := sumN_one (F := fun k => if Q k then v else 0) (G := fun _ => 0) (q := k) (v := v) k1 (fun p hp hpk => if_neg (fun hq => hpk (hu p k hp k1 hq k2))) (by rw [Nat.zero_add]; exact if_pos k2)
    rw [this, sumN_zero, Nat.zero_add]
  · rw [if_neg h, sumN_congr (g := fun _ => 0) (fun k hk => if_neg (fun hq => h (hb.mpr ⟨k, hk, hq⟩))), sumN_zero]
theorem sum_point {n q : Nat} (hq : q < n) (f : Nat → Nat) : sumN (fun p => if q = p then f p else 0) n = f q := by
  have := sumN_one (F := fun p => if q = p then f p else 0) (G := fun _ => 0) (q := q) (v := f q) hq (fun p _ hp => if_neg (fun e => hp e.symm)) (by rw [Nat.zero_add]; exact if_pos rfl)
  rw [this, sumN_zero, Nat.zero_add]
/-- a sum over all p of what belongs to p's performances is a sum over the performances -/
theorem sum_parts {n m : Nat} {P : Nat → Nat} (hP : ∀ k, k < n → P k < m) (D : Nat → Prop) [∀ k, Decidable (D k)] (f : Nat → Nat → Nat) : sumN (fun p => sumN (fun k => if P k = p ∧ D k then f p k else 0) n) m = sumN (fun k => if D k then f (P k) k else 0) n := by
  rw [sum_swap (fun p k => if P k = p ∧ D k then f p k else 0) m n]
  refine sumN_congr (fun k hk => ?_)
  by_cases h : D k
  · rw [if_pos h, sumN_congr (g := fun p => if P k = p then f p k else 0) (fun p hp => by
      by_cases e : P k = p
      · rw [if_pos ⟨e, h⟩, if_pos e]
      · rw [if_neg (fun q => e q.1), if_neg e]), sum_point (hP k hk) (fun p => f p k)]
  · rw [if_neg h, sumN_congr (g := fun _ => 0) (fun p hp => if_neg (fun q => h q.2)), sumN_zero]
theorem sum_cut {f : Nat → Nat} {a b : Nat} (h : ∀ k, a ≤ k → k < b → f k = 0) (hab : a ≤ b) : sumN f b = sumN f a := by
  obtain ⟨c, rfl⟩ : ∃ c, b = a + c := ⟨b - a, by omega⟩
  clear hab
  induction c with
  | zero => rfl
  | succ c ih =>
    show sumN f (a + c) + f (a + c) = _
    rw [ih (fun k h1 h2 => h k h1 (by omega)), h (a + c) (by omega) (by omega), Nat.add_zero]
