/-! numbers -/
theorem zI_succ (i : Nat) : nI i + 1 = nI (i + 1) := (Int32.ofNat_add i 1).symm
theorem zI_add (i j : Nat) : nI i + nI j = nI (i + j) := (Int32.ofNat_add i j).symm
theorem zI_mul (i j : Nat) : nI i * nI j = nI (i * j) := (Int32.ofNat_mul i j).symm
theorem zI_int {n : Nat} (h : n < 2 ^ 31) : (nI n).toInt = n := Int32.toInt_ofNat_of_lt h
theorem zI_nat {n : Nat} (h : n < 2 ^ 31) : (nI n).toNatClampNeg = n := by
  show (nI n).toInt.toNat = n
  rw [zI_int h]; rfl
theorem zI_le {a b : Nat} (ha : a < 2 ^ 31) (hb : b < 2 ^ 31) : nI a ≤ nI b ↔ a ≤ b := by
  rw [Int32.le_iff_toInt_le, zI_int ha, zI_int hb]; omega
theorem zI_lt {a b : Nat} (ha : a < 2 ^ 31) (hb : b < 2 ^ 31) : nI a < nI b ↔ a < b := by
  rw [Int32.lt_iff_toInt_lt, zI_int ha, zI_int hb]; omega
theorem zI_eq {a b : Nat} (ha : a < 2 ^ 31) (hb : b < 2 ^ 31) : nI a = nI b ↔ a = b := by
  rw [← Int32.toInt_inj, zI_int ha, zI_int hb]; omega
theorem zI_ne_neg {a : Nat} (ha : a < 2 ^ 31) : nI a ≠ -1 := by
  intro h
  have h2 := congrArg Int32.toInt h
  rw [zI_int ha] at h2
  have e : (-1 : Int32).toInt = -1 := rfl
  omega
theorem zI_inb {n z : Nat} (h : n < z) (hz : z < 2 ^ 31) : inb (nI n) z = true := by
  unfold inb
  refine decide_eq_true ?_
  rintro (h1 | h1)
  · rw [Int32.lt_iff_toInt_lt, zI_int (by omega)] at h1
    have e : (0 : Int32).toInt = 0 := rfl
    omega
  · rw [zI_nat (by omega)] at h1
    omega
/-- any number between 0 and a bound is one of ours -/
theorem zI_of {v : Int32} (h : 0 ≤ v) : v = nI v.toNatClampNeg := by
  have h1 := Int32.le_iff_toInt_le.mp h
  have e : (0 : Int32).toInt = 0 := rfl
  have h3 : v.toInt < 2 ^ 31 := Int32.toInt_lt v
  refine Int32.toInt_inj.mp ?_
  have e2 : v.toNatClampNeg = v.toInt.toNat := rfl
  rw [zI_int (by omega)]
  omega
theorem jIn_eq {v a b : Int32} : jIn v a b = if a ≤ v ∧ v ≤ b then 1 else 0 := by
  unfold jIn
  by_cases h1 : v < a
  · rw [if_pos h1, if_neg (fun h => absurd h.1 (Int32.not_le.mpr h1))]
  · by_cases h2 : b < v
    · rw [if_neg h1, if_pos h2, if_neg (fun h => absurd h.2 (Int32.not_le.mpr h2))]
    · rw [if_neg h1, if_neg h2, if_pos ⟨Int32.not_lt.mp h1, Int32.not_lt.mp h2⟩]
theorem zI_rg {z k : Nat} {f : Nat → Int32} (h : k < z) (hz : z < 2 ^ 31) : rg z f (nI k) = f k := by
  unfold rg
  rw [if_pos (zI_inb h hz), zI_nat (by omega)]
theorem zI_rs {z k : Nat} {f : Nat → Int32} {v : Int32} (h : k < z) (hz : z < 2 ^ 31) : rs z f (nI k) v = upd f k v := by
  unfold rs
  rw [if_pos (zI_inb h hz), zI_nat (by omega)]
/-- a sum in ints -/
def sumI (f : Nat → Int32) : Nat → Int32
  | 0 => 0
  | n + 1 => sumI f n + f n
theorem sumI_congr {f g : Nat → Int32} {n : Nat} (h : ∀ k, k < n → f k = g k) : sumI f n = sumI g n := by
  induction n with
  | zero => rfl
  | succ n ih => rw [sumI, sumI, ih (fun k hk => h k (Nat.lt_succ_of_lt hk)), h n (Nat.lt_succ_self n)]
/-! the reference's rows: its accessors -/
theorem z_in (N : Nat) (v a b : Int32) : F_X9_in N v a b = some (jIn v a b) := by
  unfold F_X9_in jIn
  by_cases h1 : v < a
  · rw [if_pos h1, if_pos h1]
  · by_cases h2 : b < v
    · rw [if_neg h1, if_neg h1, if_pos h2, if_pos h2]
    · rw [if_neg h1, if_neg h1, if_neg h2, if_neg h2]
theorem z_isStage (N : Nat) (v : Int32) : F_X9_isStage N v = some (jIn v 0 2) := by
  unfold F_X9_isStage
  rw [z_in, Option.bind_some, if_pos (isB_jIn _ _ _)]
theorem z_isDate (N : Nat) (v : Int32) : F_X9_isDate N v = some (jIn v 0 29) := by
  unfold F_X9_isDate
  rw [z_in, Option.bind_some, if_pos (isB_jIn _ _ _)]
theorem z_isProduction (N : Nat) (M : Nat → Nat → Int32) (v : Int32) : F_X9_isProduction N M v = some (jIn v 0 (M 1 5 - 1)) := by
  unfold F_X9_isProduction
  rw [if_pos (by decide), z_in, Option.bind_some, if_pos (isB_jIn _ _ _)]
  rfl
theorem z_isPerformance (N : Nat) (M : Nat → Nat → Int32) (v : Int32) : F_X9_isPerformance N M v = some (jIn v 0 (M 1 38 - 1)) := by
  unfold F_X9_isPerformance
  rw [if_pos (by decide), z_in, Option.bind_some, if_pos (isB_jIn _ _ _)]
  rfl
theorem z_isSubscription (N : Nat) (M : Nat → Nat → Int32) (v : Int32) : F_X9_isSubscription N M v = some (jIn v 0 (M 1 159 - 1)) := by
  unfold F_X9_isSubscription
  rw [if_pos (by decide), z_in, Option.bind_some, if_pos (isB_jIn _ _ _)]
  rfl
/-- the place of a cell -/
theorem z_at (b w k x : Nat) : ((nI b) + (nI w * nI k)) + nI x = nI (b + w * k + x) := by rw [zI_mul, zI_add, zI_add]
theorem z_p {N : Nat} {M : Nat → Nat → Int32} {v1 v2 : Int32} (k x : Nat) (h1 : v1 = nI k) (h2 : v2 = nI x) (hk : k < 24) (hx : x < 4) : F_X9_p N M v1 v2 = some (M 1 (39 + 4 * k + x)) := by
  subst h1; subst h2
  unfold F_X9_p
  have e : ((39 : Int32) + ((4 : Int32) * nI k)) + nI x = nI (39 + 4 * k + x) := z_at 39 4 k x
  rw [e, if_pos (zI_inb (by omega) (by omega)), zI_nat (by omega)]
theorem z_d {N : Nat} {M : Nat → Nat → Int32} {v1 v2 : Int32} (k x : Nat) (h1 : v1 = nI k) (h2 : v2 = nI x) (hk : k < 8) (hx : x < 4) : F_X9_d N M v1 v2 = some (M 1 (6 + 4 * k + x)) := by
  subst h1; subst h2
  unfold F_X9_d
  have e : ((6 : Int32) + ((4 : Int32) * nI k)) + nI x = nI (6 + 4 * k + x) := z_at 6 4 k x
  rw [e, if_pos (zI_inb (by omega) (by omega)), zI_nat (by omega)]
theorem z_u {N : Nat} {M : Nat → Nat → Int32} {v1 v2 : Int32} (k x : Nat) (h1 : v1 = nI k) (h2 : v2 = nI x) (hk : k < 10) (hx : x < 2) : F_X9_u N M v1 v2 = some (M 1 (160 + 2 * k + x)) := by
  subst h1; subst h2
  unfold F_X9_u
  have e : ((160 : Int32) + ((2 : Int32) * nI k)) + nI x = nI (160 + 2 * k + x) := z_at 160 2 k x
  rw [e, if_pos (zI_inb (by omega) (by omega)), zI_nat (by omega)]
theorem z_r {N : Nat} {M : Nat → Nat → Int32} {v1 v2 : Int32} (k x : Nat) (h1 : v1 = nI k) (h2 : v2 = nI x) (hk : k < 20) (hx : x < 3) : F_X9_r N M v1 v2 = some (M 1 (181 + 3 * k + x)) := by
  subst h1; subst h2
  unfold F_X9_r
  have e : ((181 : Int32) + ((3 : Int32) * nI k)) + nI x = nI (181 + 3 * k + x) := z_at 181 3 k x
  rw [e, if_pos (zI_inb (by omega) (by omega)), zI_nat (by omega)]
/-- bit u of a set -/
abbrev bitI (x : Int32) (u : Nat) : Prop := (x >>> (nI u &&& 31)) &&& (1 : Int32) = 1
theorem z_holds {N : Nat} {M : Nat → Nat → Int32} {v1 v2 : Int32} (u k : Nat) (h1 : v1 = nI u) (h2 : v2 = nI k) (hk : k < 24) : F_X9_holds N M v1 v2 = some (if bitI (M 1 (135 + k)) u then 1 else 0) := by
  subst h1; subst h2
  unfold F_X9_holds
  have e : (135 : Int32) + nI k = nI (135 + k) := zI_add 135 k
  rw [e, if_pos (zI_inb (by omega) (by omega)), zI_nat (by omega)]
  by_cases h : bitI (M 1 (135 + k)) u
  · rw [if_pos h, if_pos h]
  · rw [if_neg h, if_neg h]
/-- the seats that are held at a performance: from the subscriptions -/
def heldS (A : Nat → Int32) (k : Nat) : Nat → Int32 := sumI (fun u => if bitI (A (135 + k)) u then A (160 + 2 * u) else 0)
theorem z_heldL {N : Nat} {M : Nat → Nat → Int32} {nu k : Nat} (hu : M 1 159 = nI nu) (hnu : nu ≤ 10) (hk : k < 24) : ∀ (d n i : Nat), i + d = nu → d < n → D_X9_heldAt_4 N M n (nI k) (heldS (M 1) k i) (nI i) = some (heldS (M 1) k nu) := by
  intro d
  induction d with
  | zero =>
    intro n i hi hn
    obtain ⟨n, rfl⟩ : ∃ m, n = m + 1 := ⟨n - 1, by omega⟩
    obtain rfl : i = nu := by omega
    rw [D_X9_heldAt_4, if_pos (by decide)]
    have e : (M 1) (159 : Int32).toNatClampNeg = nI i := hu
    rw [e, if_pos ((zI_le (by omega) (by omega)).mpr (Nat.le_refl _))]
  | succ d ih =>
    intro n i hi hn
    obtain ⟨n, rfl⟩ : ∃ m, n = m + 1 := ⟨n - 1, by omega⟩
    rw [D_X9_heldAt_4, if_pos (by decide)]
    have e : (M 1) (159 : Int32).toNatClampNeg = nI nu := hu
    rw [e, if_neg (fun h => absurd ((zI_le (by omega) (by omega)).mp h) (by omega)), z_holds i k rfl rfl hk, Option.bind_some, zI_succ]
    have hs : heldS (M 1) k (i + 1) = heldS (M 1) k i + (if bitI (M 1 (135 + k)) i then M 1 (160 + 2 * i) else 0) := rfl
    by_cases hb : bitI (M 1 (135 + k)) i
    · rw [if_pos hb] at hs ⊢
      rw [if_neg (by decide), z_u (v2 := 0) i 0 rfl rfl (by omega) (by omega), Option.bind_some, ← ih n (i + 1) (by omega) (by omega), hs]
      rfl
    · rw [if_neg hb] at hs ⊢
      rw [if_pos rfl, ← ih n (i + 1) (by omega) (by omega), hs]
theorem z_heldAt {N : Nat} {M : Nat → Nat → Int32} {nu k : Nat} {v : Int32} (hv : v = nI k) (hu : M 1 159 = nI nu) (hnu : nu ≤ 10) (hk : k < 24) (hN : nu < N) : F_X9_heldAt N M v = some (heldS (M 1) k nu) := by
  subst hv
  unfold F_X9_heldAt
  exact z_heldL hu hnu hk nu N 0 (by omega) hN
