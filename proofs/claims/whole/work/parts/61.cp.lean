/-! the reference copies its seasons -/
theorem u1_u1 {α : Type} (M : Nat → α) (r : Nat) (f g : α) : u1 (u1 M r f) r g = u1 M r g := by
  funext x
  by_cases h : x = r
  · subst h; rw [u1_eq, u1_eq]
  · rw [u1_ne h, u1_ne h, u1_ne h]
theorem u1_id {α : Type} (M : Nat → α) (r : Nat) : u1 M r (M r) = M := by
  funext x
  by_cases h : x = r
  · subst h; rw [u1_eq]
  · rw [u1_ne h]
/-- block f put into block t, as far as cell i -/
def cpI (M : Nat → Nat → Int32) (f t i : Nat) : Nat → Nat → Int32 := u1 M 1 (fun x => if 241 * t ≤ x ∧ x < 241 * t + i then M 1 (241 * f + (x - 241 * t)) else M 1 x)
theorem cpI_0 (M : Nat → Nat → Int32) (f t : Nat) : cpI M f t 0 = M := by
  unfold cpI
  rw [show (fun x => if 241 * t ≤ x ∧ x < 241 * t + 0 then M 1 (241 * f + (x - 241 * t)) else M 1 x) = M 1 from ?_, u1_id]
  funext x
  rw [if_neg (by omega)]
theorem cpI_src (M : Nat → Nat → Int32) (f t i : Nat) (hi : i < 241) : cpI M f t i 1 (241 * f + i) = M 1 (241 * f + i) := by
  unfold cpI
  rw [u1_eq]
  by_cases h : 241 * t ≤ 241 * f + i ∧ 241 * f + i < 241 * t + i
  · exfalso; omega
  · exact if_neg h
theorem cpI_succ (M : Nat → Nat → Int32) (f t i : Nat) (ht : t ≤ 8) (hi : i < 241) : stA (cpI M f t i) 1 (nI (241 * t + i)) (M 1 (241 * f + i)) = cpI M f t (i + 1) := by
  unfold stA
  rw [zI_nat (by omega)]
  unfold cpI
  rw [u1_u1, u1_eq]
  congr 1
  funext x
  unfold upd
  by_cases h : x = 241 * t + i
  · subst h
    rw [if_pos rfl, if_pos (by omega)]
    congr 1
    omega
  · rw [if_neg h]
    show (if 241 * t ≤ x ∧ x < 241 * t + i then M 1 (241 * f + (x - 241 * t)) else M 1 x) = _
    by_cases h2 : 241 * t ≤ x ∧ x < 241 * t + i
    · rw [if_pos h2, if_pos (by omega)]
    · rw [if_neg h2, if_neg (by omega)]
theorem z_copL {N : Nat} {M : Nat → Nat → Int32} {f t : Nat} (hf : f ≤ 8) (ht : t ≤ 8) : ∀ (d n i : Nat), i + d = 241 → d < n → D_X9_copies_2 N n (cpI M f t i) (nI f) (nI t) (nI i) = some (cpI M f t 241) := by
  intro d
  induction d with
  | zero =>
    intro n i hi hn
    obtain ⟨n, rfl⟩ : ∃ m, n = m + 1 := ⟨n - 1, by omega⟩
    obtain rfl : i = 241 := by omega
    rw [D_X9_copies_2, if_pos (by decide)]
  | succ d ih =>
    intro n i hi hn
    obtain ⟨n, rfl⟩ : ∃ m, n = m + 1 := ⟨n - 1, by omega⟩
    have e1 : ((241 : Int32) * nI f) + nI i = nI (241 * f + i) := by
      rw [show (241 : Int32) * nI f = nI (241 * f) from zI_mul 241 f, zI_add]
    have e2 : ((241 : Int32) * nI t) + nI i = nI (241 * t + i) := by
      rw [show (241 : Int32) * nI t = nI (241 * t) from zI_mul 241 t, zI_add]
    rw [D_X9_copies_2, if_neg (show ¬ (241 : Int32) ≤ nI i from fun h => absurd ((zI_le (a := 241) (by omega) (by omega)).mp h) (by omega)), e1, e2, if_pos (zI_inb (by omega) (by omega)), if_pos (zI_inb (by omega) (by omega)), zI_nat (by omega), cpI_src M f t i (by omega), zI_succ]
    show D_X9_copies_2 N n (stA (cpI M f t i) 1 (nI (241 * t + i)) (M 1 (241 * f + i))) (nI f) (nI t) (nI (i + 1)) = _
    rw [cpI_succ M f t i ht (by omega)]
    exact ih n (i + 1) (by omega) (by omega)
/-- block f put into block t -/
def cpB (M : Nat → Nat → Int32) (f t : Nat) : Nat → Nat → Int32 := cpI M f t 241
theorem z_copies {N : Nat} {M : Nat → Nat → Int32} {v1 v2 : Int32} (f t : Nat) (h1 : v1 = nI f) (h2 : v2 = nI t) (hf : f ≤ 8) (ht : t ≤ 8) (hN : 241 < N) : F_X9_copies N M v1 v2 = some (cpB M f t) := by
  subst h1; subst h2
  unfold F_X9_copies
  have := z_copL (N := N) (M := M) (f := f) (t := t) hf ht 241 N 0 (by omega) hN
  rw [cpI_0] at this
  exact this
/-- block b of the reference -/
def blk (M : Nat → Nat → Int32) (b : Nat) : Nat → Int32 := fun k => M 1 (241 * b + k)
theorem cpB_row {M : Nat → Nat → Int32} {f t r : Nat} (h : r ≠ 1) : cpB M f t r = M r := u1_ne h
theorem cpB_to {M : Nat → Nat → Int32} {f t k : Nat} (hk : k < 241) : blk (cpB M f t) t k = blk M f k := by
  unfold blk cpB cpI
  rw [u1_eq, if_pos (by omega)]
  congr 1
  omega
theorem cpB_ne {M : Nat → Nat → Int32} {f t b k : Nat} (hk : k < 241) (hb : b ≠ t) : blk (cpB M f t) b k = blk M b k := by
  unfold blk cpB cpI
  rw [u1_eq, if_neg (by omega)]
