/-! numbers (rows of whole, taken over) -/
abbrev RM : Type := Nat → Nat → Int32
theorem zI_succ (i : Nat) : nI i + 1 = nI (i + 1) := (Int32.ofNat_add i 1).symm
theorem zI_add (i j : Nat) : nI i + nI j = nI (i + j) := (Int32.ofNat_add i j).symm
theorem zI_mul (i j : Nat) : nI i * nI j = nI (i * j) := (Int32.ofNat_mul i j).symm
theorem zI_int {n : Nat} (h : n < 2 ^ 31) : (nI n).toInt = n := Int32.toInt_ofNat_of_lt h
theorem zI_nat {n : Nat} (h : n < 2 ^ 31) : (nI n).toNatClampNeg = n := by
  show (nI n).toInt.toNat = n
  rw [zI_int h]; rfl
theorem zI_le {a b : Nat} (ha : a < 2 ^ 31) (hb : b < 2 ^ 31) : nI a ≤ nI b ↔ a ≤ b := by
  rw [Int32.le_iff_toInt_le, zI_int ha, zI_int hb]; omega
theorem zI_lt {a b : Nat} (ha : a < 2 ^ 31) (hb : b < 2 ^ 31) : nI a < nI b ↔ a < b := by
  rw [Int32.lt_iff_toInt_lt, zI_int ha, zI_int hb]; omega
theorem zI_eq {a b : Nat} (ha : a < 2 ^ 31) (hb : b < 2 ^ 31) : nI a = nI b ↔ a = b := by
  rw [← Int32.toInt_inj, zI_int ha, zI_int hb]; omega
theorem zI_ne_neg {a : Nat} (ha : a < 2 ^ 31) : nI a ≠ -1 := by
  intro h
  have h2 := congrArg Int32.toInt h
  rw [zI_int ha] at h2
  have e : (-1 : Int32).toInt = -1 := rfl
  omega
theorem zI_inb {n z : Nat} (h : n < z) (hz : z < 2 ^ 31) : inb (nI n) z = true := by
  unfold inb
  refine decide_eq_true ?_
  rintro (h1 | h1)
  · rw [Int32.lt_iff_toInt_lt, zI_int (by omega)] at h1
    have e : (0 : Int32).toInt = 0 := rfl
    omega
  · rw [zI_nat (by omega)] at h1
    omega
/-- any number between 0 and a bound is one of ours -/
theorem zI_of {v : Int32} (h : 0 ≤ v) : v = nI v.toNatClampNeg := by
  have h1 := Int32.le_iff_toInt_le.mp h
  have e : (0 : Int32).toInt = 0 := rfl
  have h3 : v.toInt < 2 ^ 31 := Int32.toInt_lt v
  refine Int32.toInt_inj.mp ?_
  have e2 : v.toNatClampNeg = v.toInt.toNat := rfl
  rw [zI_int (by omega)]
  omega
theorem jIn_eq {v a b : Int32} : jIn v a b = if a ≤ v ∧ v ≤ b then 1 else 0 := by
  unfold jIn
  by_cases h1 : v < a
  · rw [if_pos h1, if_neg (fun h => absurd h.1 (Int32.not_le.mpr h1))]
  · by_cases h2 : b < v
    · rw [if_neg h1, if_pos h2, if_neg (fun h => absurd h.2 (Int32.not_le.mpr h2))]
    · rw [if_neg h1, if_neg h2, if_pos ⟨Int32.not_lt.mp h1, Int32.not_lt.mp h2⟩]
theorem zI_rg {z k : Nat} {f : Nat → Int32} (h : k < z) (hz : z < 2 ^ 31) : rg z f (nI k) = f k := by
  unfold rg
  rw [if_pos (zI_inb h hz), zI_nat (by omega)]
theorem zI_rs {z k : Nat} {f : Nat → Int32} {v : Int32} (h : k < z) (hz : z < 2 ^ 31) : rs z f (nI k) v = upd f k v := by
  unfold rs
  rw [if_pos (zI_inb h hz), zI_nat (by omega)]
theorem zI_div {a b : Nat} (ha : a < 2 ^ 31) (hb : b < 2 ^ 31) : nI a / nI b = nI (a / b) := by
  refine Int32.toInt_inj.mp ?_
  have h1 : a / b ≤ a := Nat.div_le_self a b
  rw [Int32.toInt_div, zI_int ha, zI_int hb, zI_int (by omega), ← Int.ofNat_tdiv]
  generalize a / b = q at h1 ⊢
  rw [Int.bmod_eq_of_le (by omega) (by omega)]
theorem zI_sub {a b : Nat} (h : b ≤ a) : nI a - nI b = nI (a - b) := by
  have e : nI a = nI (a - b) + nI b := by rw [zI_add]; congr 1; omega
  rw [e, Int32.add_sub_cancel]
theorem zI_pos {a : Nat} (h : a < 2 ^ 31) : 0 ≤ nI a := by
  rw [Int32.le_iff_toInt_le, zI_int h]
  have e : (0 : Int32).toInt = 0 := rfl
  omega
theorem zI_negI {a : Nat} (h : a < 2 ^ 31) : (-(nI a)).toInt = -(a : Int) := by
  rw [Int32.toInt_neg, zI_int h, Int.bmod_eq_of_le (by omega) (by omega)]
theorem jRef_eq {a d : Nat} (ha : a ≤ 9) (hd : d < 1000) : jRef (nI a) (nI d) = -(nI (a * 1000 + d)) := by
  unfold jRef
  rw [show (nI a * 1000 : Int32) = nI (a * 1000) from zI_mul a 1000, zI_add]
theorem z_close_ok {N : Nat} {S : Nat → Nat → Nat → Int32} {v : Int32} (h : 0 ≤ v) : F_X8_closeChange N S v = some (0, v, hClose S) := by
  unfold F_X8_closeChange
  rw [if_neg (Int32.not_lt.mpr h)]
  rfl
theorem z_keepRef {N a d : Nat} {S : Nat → Nat → Nat → Int32} (ha1 : 1 ≤ a) (ha : a ≤ 9) (hd : d < 1000) : F_X8_keepRefusal N S (jRef (nI a) (nI d)) = some (stT (stT S 1 (nI a)) 2 (nI d)) := by
  have hm : a * 1000 + d < 2 ^ 31 := by omega
  rw [jRef_eq ha hd]
  unfold F_X8_keepRefusal
  have h1 : ¬ ((-1000 : Int32) < -(nI (a * 1000 + d))) := by
    rw [Int32.lt_iff_toInt_lt, zI_negI hm]
    have e : (-1000 : Int32).toInt = -1000 := rfl
    omega
  rw [if_neg h1]
  simp only [jlet]
  rw [Int32.neg_neg, show (nI (a * 1000 + d) / 1000 : Int32) = nI ((a * 1000 + d) / 1000) from zI_div (b := 1000) hm (by omega)]
  have e1 : (a * 1000 + d) / 1000 = a := by omega
  rw [e1, show (nI a * 1000 : Int32) = nI (a * 1000) from zI_mul a 1000, zI_sub (by omega)]
  have e2 : a * 1000 + d - a * 1000 = d := by omega
  rw [e2]
theorem z_close_ref {N a d : Nat} {S : Nat → Nat → Nat → Int32} (ha1 : 1 ≤ a) (ha : a ≤ 9) (hd : d < 1000) : F_X8_closeChange N S (jRef (nI a) (nI d)) = some (4, 0, stT (stT S 1 (nI a)) 2 (nI d)) := by
  have hm : a * 1000 + d < 2 ^ 31 := by omega
  have hk := z_keepRef (N := N) (S := S) ha1 ha hd
  have ht : (jRef (nI a) (nI d)).toInt = -((a * 1000 + d : Nat) : Int) := by rw [jRef_eq ha hd, zI_negI hm]
  generalize hv : jRef (nI a) (nI d) = v at hk ht
  have hne : ∀ z : Int32, -1000 < z.toInt → v ≠ z := by
    intro z hz h
    rw [h] at ht
    omega
  unfold F_X8_closeChange
  have hneg : v < 0 := by
    rw [Int32.lt_iff_toInt_lt, ht]
    have e : (0 : Int32).toInt = 0 := rfl
    omega
  rw [if_pos hneg, if_neg (hne (-1) (by decide)), if_pos (by decide), if_neg (hne (-2) (by decide))]
  unfold D_X8_closeChange_37
  rw [if_pos (by decide), if_neg (hne (-3) (by decide)), hk]
  rfl
theorem stF_ne {M : Nat → Nat → Int32} {k : Nat} {v : Int32} {r : Nat} (h : r ≠ 0) : stF M k v r = M r := u1_ne h
theorem stF_eq {M : Nat → Nat → Int32} {k : Nat} {v : Int32} : stF M k v 0 k = v := by unfold stF; rw [u1_eq, u1_eq]
theorem stF_o {M : Nat → Nat → Int32} {k x : Nat} {v : Int32} (h : x ≠ k) : stF M k v 0 x = M 0 x := by unfold stF; rw [u1_eq, u1_ne h]
theorem ph_2 (S : CS) (i : Nat) : 2 ≤ ph S i ∧ ph S i ≤ 8 := by
  unfold ph
  omega
theorem stT_9 {S : CS} {k : Nat} {v : Int32} : stT S k v 9 = stF (S 9) k v := u1_eq
theorem stT_ne {S : CS} {k j : Nat} {v : Int32} (h : j ≠ 9) : stT S k v j = S j := u1_ne h
theorem upd_eq {f : Nat → Int32} {i : Nat} {v : Int32} : upd f i v i = v := by unfold upd; rw [if_pos rfl]
theorem upd_ne {f : Nat → Int32} {i x : Nat} {v : Int32} (h : x ≠ i) : upd f i v x = f x := by unfold upd; rw [if_neg h]
theorem jIn_0 {v a b : Int32} : jIn v a b = 0 ↔ ¬ (a ≤ v ∧ v ≤ b) := by
  rw [jIn_eq]
  by_cases h : a ≤ v ∧ v ≤ b
  · rw [if_pos h]; exact ⟨fun q => absurd q (by decide), fun q => absurd h q⟩
  · rw [if_neg h]; exact ⟨fun _ => h, fun _ => rfl⟩
/-- a number between two of ours -/
theorem zI_btw {v : Int32} {a b : Nat} (hb : b < 2 ^ 31) (ha : a ≤ b) (h : nI a ≤ v ∧ v ≤ nI b) : ∃ z, v = nI z ∧ a ≤ z ∧ z ≤ b := by
  have h1 := Int32.le_iff_toInt_le.mp h.1
  have h2 := Int32.le_iff_toInt_le.mp h.2
  rw [zI_int (by omega)] at h1
  rw [zI_int hb] at h2
  refine ⟨v.toInt.toNat, ?_, by omega, by omega⟩
  refine Int32.toInt_inj.mp ?_
  rw [zI_int (by omega)]
  omega
theorem zI_idx {n : Nat} (hn : n < 2 ^ 31) (v : Int32) : jIn v 0 (nI n - 1) = 0 ∨ (jIn v 0 (nI n - 1) = 1 ∧ ∃ k, k < n ∧ v = nI k) := by
  rw [jIn_eq]
  by_cases h : 0 ≤ v ∧ v ≤ nI n - 1
  · rw [if_pos h]
    refine Or.inr ⟨rfl, ?_⟩
    have h1 := Int32.le_iff_toInt_le.mp h.1
    have h2 := Int32.le_iff_toInt_le.mp h.2
    have e0 : (0 : Int32).toInt = 0 := rfl
    have e1 : (1 : Int32).toInt = 1 := rfl
    rw [e0] at h1
    rw [Int32.toInt_sub, zI_int hn, e1, Int.bmod_eq_of_le (by omega) (by omega)] at h2
    refine ⟨v.toInt.toNat, by omega, ?_⟩
    refine Int32.toInt_inj.mp ?_
    rw [zI_int (by omega)]
    omega
  · rw [if_neg h]; exact Or.inl rfl
theorem z_has2 (N : Nat) (T : RM) (v : Int32) : F_X2_has N T v = some (jIn v 0 (T 0 3 - 1)) := by
  unfold F_X2_has
  rw [if_pos (isB_jIn _ _ _)]
theorem z_has3 (N : Nat) (T : RM) (v : Int32) : F_X3_has N T v = some (jIn v 0 (T 0 2 - 1)) := by
  unfold F_X3_has
  rw [if_pos (isB_jIn _ _ _)]
theorem z_has7 (N : Nat) (T : RM) (v : Int32) : F_X7_has N T v = some (jIn v 0 (T 0 4 - 1)) := by
  unfold F_X7_has
  rw [if_pos (isB_jIn _ _ _)]
theorem jIn_none {x : Int32} : jIn (-1) 0 x = 0 := by
  unfold jIn
  rw [if_pos (by decide)]
theorem jRef_ne0 {a d : Nat} (ha1 : 1 ≤ a) (ha : a ≤ 9) (hd : d < 1000) : ¬ jRef (nI a) (nI d) = 0 := fun q => by
  have q2 := congrArg Int32.toInt q
  rw [jRef_eq ha hd, zI_negI (by omega)] at q2
  have e0 : (0 : Int32).toInt = 0 := rfl
  omega
def sumN (f : Nat → Nat) : Nat → Nat
  | 0 => 0
  | n + 1 => sumN f n + f n
theorem sumN_congr {f g : Nat → Nat} {n : Nat} (h : ∀ k, k < n → f k = g k) : sumN f n = sumN g n := by
  induction n with
  | zero => rfl
  | succ n ih => rw [sumN, sumN, ih (fun k hk => h k (Nat.lt_succ_of_lt hk)), h n (Nat.lt_succ_self n)]
def nv (x : Int32) : Nat := x.toNatClampNeg
/-- the crews on a date, from the productions' sets of dates -/
def crewN (D C : Nat → Int32) (np d : Nat) : Nat := sumN (fun p => if (nv (D p)).testBit d = true then nv (C p) else 0) np
