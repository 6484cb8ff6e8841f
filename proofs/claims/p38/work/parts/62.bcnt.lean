/-! counting the members of a set; a request put in its place (rows of whole, taken over) -/
theorem nI_ushr {m n : Nat} (hm : m < 2 ^ 32) (hn : n < 32) : ((nI m).toUInt32 >>> ((nI n).toUInt32 &&& Int32.toUInt32 31)).toInt32 = nI (m / 2 ^ n) := by
  refine b_ext (fun i hi => ?_)
  rw [b_ushr n hn, b_nI _ _ hi, Nat.testBit_div_two_pow]
  by_cases h : n + i < 32
  · rw [b_nI _ _ h, Nat.add_comm]
  · rw [b_big (by omega), Nat.testBit_lt_two_pow (Nat.lt_of_lt_of_le hm (Nat.pow_le_pow_right (by decide) (by omega)))]
theorem and_split (x K : Nat) : x &&& K = ((x % 256) &&& (K % 256)) + 256 * ((x / 256) &&& (K / 256)) := by
  have h1 := Nat.and_mod_two_pow (a := x) (b := K) (n := 8)
  have h2 := Nat.and_div_two_pow (a := x) (b := K) (n := 8)
  have h3 := Nat.mod_add_div (x &&& K) (2 ^ 8)
  rw [h1, h2] at h3
  exact h3.symm
theorem and_lo {y : Nat} (h : y < 2 ^ 24) (K : Nat) : y &&& K = y &&& (K % 2 ^ 24) := by
  have h1 := Nat.and_mod_two_pow (a := y) (b := K) (n := 24)
  rw [Nat.mod_eq_of_lt h, Nat.mod_eq_of_lt (Nat.lt_of_le_of_lt Nat.and_le_left h)] at h1
  exact h1
def bcA (m : Nat) : Nat := m - ((m / 2) &&& 1431655765)
def bcB (a : Nat) : Nat := (a &&& 858993459) + ((a / 4) &&& 858993459)
def bcC (b : Nat) : Nat := (b + b / 16) &&& 252645135
theorem bcA_split {m0 m1 : Nat} (h0 : m0 < 256) (h1 : m1 < 2 ^ 24) : bcA (m0 + 256 * m1) = bcA m0 + 256 * bcA m1 := by
  have e0 : ∀ m0, m0 < 256 → ∀ b, b < 2 → ((m0 / 2 + 128 * b) &&& 85) = ((m0 / 2) &&& 1431655765) := by decide +kernel
  have e : ((m0 + 256 * m1) / 2) &&& 1431655765 = ((m0 / 2) &&& 1431655765) + 256 * ((m1 / 2) &&& 1431655765) := by
    rw [and_split, show (m0 + 256 * m1) / 2 % 256 = m0 / 2 + 128 * (m1 % 2) by omega, show (m0 + 256 * m1) / 2 / 256 = m1 / 2 by omega]
    show ((m0 / 2 + 128 * (m1 % 2)) &&& 85) + 256 * ((m1 / 2) &&& 5592405) = _
    rw [e0 m0 h0 (m1 % 2) (by omega), and_lo (y := m1 / 2) (by omega) 1431655765]
  have l0 : (m0 / 2) &&& 1431655765 ≤ m0 / 2 := Nat.and_le_left
  have l1 : (m1 / 2) &&& 1431655765 ≤ m1 / 2 := Nat.and_le_left
  unfold bcA
  rw [e]
  omega
theorem bcB_split {a0 a1 : Nat} (h0 : a0 < 256) (h1 : a1 < 2 ^ 24) : bcB (a0 + 256 * a1) = bcB a0 + 256 * bcB a1 := by
  have e0 : ∀ a0, a0 < 256 → ∀ b, b < 4 → ((a0 / 4 + 64 * b) &&& 51) = ((a0 / 4) &&& 858993459) := by decide +kernel
  have e1 : ∀ a0, a0 < 256 → (a0 &&& 51) = (a0 &&& 858993459) := by decide +kernel
  have f1 : (a0 + 256 * a1) &&& 858993459 = (a0 &&& 858993459) + 256 * (a1 &&& 858993459) := by
    rw [and_split, show (a0 + 256 * a1) % 256 = a0 by omega, show (a0 + 256 * a1) / 256 = a1 by omega]
    show (a0 &&& 51) + 256 * (a1 &&& 3355443) = _
    rw [e1 a0 h0, and_lo h1 858993459]
  have f2 : ((a0 + 256 * a1) / 4) &&& 858993459 = ((a0 / 4) &&& 858993459) + 256 * ((a1 / 4) &&& 858993459) := by
    rw [and_split, show (a0 + 256 * a1) / 4 % 256 = a0 / 4 + 64 * (a1 % 4) by omega, show (a0 + 256 * a1) / 4 / 256 = a1 / 4 by omega]
    show ((a0 / 4 + 64 * (a1 % 4)) &&& 51) + 256 * ((a1 / 4) &&& 3355443) = _
    rw [e0 a0 h0 (a1 % 4) (by omega), and_lo (y := a1 / 4) (by omega) 858993459]
  unfold bcB
  rw [f1, f2]
  omega
theorem bcB_lo {a : Nat} (h : a < 256) : bcB a ≤ 102 := by
  have e : ∀ a, a < 256 → bcB a ≤ 102 := by decide +kernel
  exact e a h
theorem bcB_nib (a : Nat) : bcB a % 16 ≤ 6 := by
  have h1 := Nat.and_mod_two_pow (a := a) (b := 858993459) (n := 4)
  have h2 := Nat.and_mod_two_pow (a := a / 4) (b := 858993459) (n := 4)
  have l1 : (a % 2 ^ 4) &&& (858993459 % 2 ^ 4) ≤ 3 := Nat.and_le_right
  have l2 : (a / 4 % 2 ^ 4) &&& (858993459 % 2 ^ 4) ≤ 3 := Nat.and_le_right
  rw [← h1] at l1
  rw [← h2] at l2
  have l1 : (a &&& 858993459) % 16 ≤ 3 := l1
  have l2 : (a / 4 &&& 858993459) % 16 ≤ 3 := l2
  unfold bcB
  omega
theorem bcC_split {b0 b1 : Nat} (h0 : b0 ≤ 102) (h1 : b1 < 2 ^ 24 - 2 ^ 20) (h2 : b1 % 16 ≤ 6) : bcC (b0 + 256 * b1) = bcC b0 + 256 * bcC b1 := by
  have e0 : ∀ b0, b0 < 103 → ∀ t, t < 7 → ((b0 + b0 / 16 + 16 * t) &&& 15) = ((b0 + b0 / 16) &&& 252645135) := by decide +kernel
  unfold bcC
  rw [and_split, show (b0 + 256 * b1 + (b0 + 256 * b1) / 16) % 256 = b0 + b0 / 16 + 16 * (b1 % 16) by omega, show (b0 + 256 * b1 + (b0 + 256 * b1) / 16) / 256 = b1 + b1 / 16 by omega]
  show ((b0 + b0 / 16 + 16 * (b1 % 16)) &&& 15) + 256 * ((b1 + b1 / 16) &&& 986895) = _
  rw [e0 b0 (by omega) (b1 % 16) (by omega), and_lo (y := b1 + b1 / 16) (by omega) 252645135]
theorem bcA_le (m : Nat) : bcA m ≤ m := Nat.sub_le _ _
theorem bcB_bd (a : Nat) : bcB a ≤ 1717986918 := by
  have l1 : a &&& 858993459 ≤ 858993459 := Nat.and_le_right
  have l2 : (a / 4) &&& 858993459 ≤ 858993459 := Nat.and_le_right
  unfold bcB
  omega
theorem bcB_bd24 {a : Nat} (h : a < 2 ^ 24) : bcB a ≤ 6710886 := by
  have l1 : a &&& 3355443 ≤ 3355443 := Nat.and_le_right
  have l2 : (a / 4) &&& 3355443 ≤ 3355443 := Nat.and_le_right
  have f1 := and_lo h 858993459
  have f2 := and_lo (y := a / 4) (by omega) 858993459
  have f1 : a &&& 858993459 = a &&& 3355443 := f1
  have f2 : a / 4 &&& 858993459 = a / 4 &&& 3355443 := f2
  unfold bcB
  rw [f1, f2]
  omega
def bcT (m : Nat) : Nat := bcC (bcB (bcA m))
theorem bcT_split {m0 m1 : Nat} (h0 : m0 < 256) (h1 : m1 < 2 ^ 24) : bcT (m0 + 256 * m1) = bcT m0 + 256 * bcT m1 := by
  have l0 := bcA_le m0
  have l1 := bcA_le m1
  have l2 := bcB_bd24 (a := bcA m1) (by omega)
  unfold bcT
  rw [bcA_split h0 h1, bcB_split (by omega) (by omega), bcC_split (bcB_lo (by omega)) (by omega) (bcB_nib _)]
def popN (m n : Nat) : Nat := sumN (fun i => if m.testBit i = true then 1 else 0) n
theorem popN_le (m n : Nat) : popN m n ≤ n := by
  have h := sumN_bd (f := fun i => if m.testBit i = true then 1 else 0) (n := n) (c := 1) (fun k _ => by
    by_cases h : m.testBit k = true
    · rw [if_pos h]; exact Nat.le_refl 1
    · rw [if_neg h]; exact Nat.zero_le 1)
  rw [Nat.mul_one] at h
  exact h
theorem bcT_8 {m : Nat} (h : m < 256) : bcT m = popN m 8 := by
  have e : ∀ m, m < 256 → bcT m = popN m 8 := by decide +kernel
  exact e m h
theorem sumN_app (f : Nat → Nat) (a b : Nat) : sumN f (a + b) = sumN f a + sumN (fun i => f (a + i)) b := by
  induction b with
  | zero => rfl
  | succ b ih =>
    show sumN f (a + b) + f (a + b) = sumN f a + (sumN (fun i => f (a + i)) b + f (a + b))
    rw [ih]
    omega
theorem popN_split {m0 m1 n : Nat} (h0 : m0 < 256) : popN (m0 + 256 * m1) (8 + n) = popN m0 8 + popN m1 n := by
  unfold popN
  rw [sumN_app]
  congr 1
  · refine sumN_congr (fun i hi => ?_)
    rw [show m0 + 256 * m1 = 2 ^ 8 * m1 + m0 by omega, Nat.testBit_two_pow_mul_add m1 (show m0 < 2 ^ 8 by omega), if_pos hi]
  · refine sumN_congr (fun i hi => ?_)
    rw [show m0 + 256 * m1 = 2 ^ 8 * m1 + m0 by omega, Nat.testBit_two_pow_mul_add m1 (show m0 < 2 ^ 8 by omega), if_neg (show ¬ 8 + i < 8 by omega), show 8 + i - 8 = i by omega]
theorem bcnt_pop {m : Nat} (hm : m < 2 ^ 32) : bcnt (nI m) = nI (popN m 32) := by
  have hA : bcA m < 2 ^ 32 := Nat.lt_of_le_of_lt (bcA_le m) hm
  have hB := bcB_bd (bcA m)
  have hC : bcT m ≤ 252645135 := Nat.and_le_right
  have s1 : nI m - (((nI m).toUInt32 >>> ((1 : Int32).toUInt32 &&& Int32.toUInt32 31)).toInt32 &&& (1431655765 : Int32)) = nI (bcA m) := by
    rw [show ((nI m).toUInt32 >>> ((1 : Int32).toUInt32 &&& Int32.toUInt32 31)).toInt32 = nI (m / 2 ^ 1) from nI_ushr hm (by decide), show nI (m / 2 ^ 1) &&& (1431655765 : Int32) = nI ((m / 2 ^ 1) &&& 1431655765) from nI_and _ _]
    exact zI_sub (Nat.le_trans Nat.and_le_left (Nat.div_le_self m (2 ^ 1)))
  have s2 : (nI (bcA m) &&& (858993459 : Int32)) + (((nI (bcA m)).toUInt32 >>> ((2 : Int32).toUInt32 &&& Int32.toUInt32 31)).toInt32 &&& (858993459 : Int32)) = nI (bcB (bcA m)) := by
    rw [show ((nI (bcA m)).toUInt32 >>> ((2 : Int32).toUInt32 &&& Int32.toUInt32 31)).toInt32 = nI (bcA m / 2 ^ 2) from nI_ushr hA (by decide), show nI (bcA m / 2 ^ 2) &&& (858993459 : Int32) = nI ((bcA m / 2 ^ 2) &&& 858993459) from nI_and _ _, show nI (bcA m) &&& (858993459 : Int32) = nI ((bcA m) &&& 858993459) from nI_and _ _, zI_add]
    rfl
  have s3 : (nI (bcB (bcA m)) + ((nI (bcB (bcA m))).toUInt32 >>> ((4 : Int32).toUInt32 &&& Int32.toUInt32 31)).toInt32) &&& (252645135 : Int32) = nI (bcT m) := by
    rw [show ((nI (bcB (bcA m))).toUInt32 >>> ((4 : Int32).toUInt32 &&& Int32.toUInt32 31)).toInt32 = nI (bcB (bcA m) / 2 ^ 4) from nI_ushr (by omega) (by decide), zI_add]
    exact nI_and _ _
  have s4 : nI (bcT m) + ((nI (bcT m)).toUInt32 >>> ((8 : Int32).toUInt32 &&& Int32.toUInt32 31)).toInt32 = nI (bcT m + bcT m / 256) := by
    rw [show ((nI (bcT m)).toUInt32 >>> ((8 : Int32).toUInt32 &&& Int32.toUInt32 31)).toInt32 = nI (bcT m / 2 ^ 8) from nI_ushr (by omega) (by decide), zI_add]
  have s5 : nI (bcT m + bcT m / 256) + ((nI (bcT m + bcT m / 256)).toUInt32 >>> ((16 : Int32).toUInt32 &&& Int32.toUInt32 31)).toInt32 = nI (bcT m + bcT m / 256 + (bcT m + bcT m / 256) / 65536) := by
    rw [show ((nI (bcT m + bcT m / 256)).toUInt32 >>> ((16 : Int32).toUInt32 &&& Int32.toUInt32 31)).toInt32 = nI ((bcT m + bcT m / 256) / 2 ^ 16) from nI_ushr (by omega) (by decide), zI_add]
  have s6 : nI (bcT m + bcT m / 256 + (bcT m + bcT m / 256) / 65536) &&& (63 : Int32) = nI ((bcT m + bcT m / 256 + (bcT m + bcT m / 256) / 65536) % 64) := by
    rw [show nI (bcT m + bcT m / 256 + (bcT m + bcT m / 256) / 65536) &&& (63 : Int32) = nI ((bcT m + bcT m / 256 + (bcT m + bcT m / 256) / 65536) &&& (2 ^ 6 - 1)) from nI_and _ _, Nat.and_two_pow_sub_one_eq_mod]
  have hb : bcnt (nI m) = nI ((bcT m + bcT m / 256 + (bcT m + bcT m / 256) / 65536) % 64) := by
    unfold bcnt F_J6_bitCount_0f7a4
    rw [jlet_eq, s1, jlet_eq, s2, jlet_eq, s3, jlet_eq, s4, jlet_eq, s5, s6]
    rfl
  rw [hb]
  congr 1
  have d1 : bcT m = bcT (m % 256) + 256 * bcT (m / 256) := by
    rw [← bcT_split (m0 := m % 256) (m1 := m / 256) (by omega) (by omega)]
    congr 1
    omega
  have d2 : bcT (m / 256) = bcT (m / 256 % 256) + 256 * bcT (m / 256 / 256) := by
    rw [← bcT_split (m0 := m / 256 % 256) (m1 := m / 256 / 256) (by omega) (by omega)]
    congr 1
    omega
  have d3 : bcT (m / 256 / 256) = bcT (m / 256 / 256 % 256) + 256 * bcT (m / 256 / 256 / 256) := by
    rw [← bcT_split (m0 := m / 256 / 256 % 256) (m1 := m / 256 / 256 / 256) (by omega) (by omega)]
    congr 1
    omega
  have p1 : popN m 32 = popN (m % 256) 8 + popN (m / 256) 24 := by
    rw [← popN_split (n := 24) (m0 := m % 256) (m1 := m / 256) (by omega)]
    congr 1
    omega
  have p2 : popN (m / 256) 24 = popN (m / 256 % 256) 8 + popN (m / 256 / 256) 16 := by
    rw [← popN_split (n := 16) (m0 := m / 256 % 256) (m1 := m / 256 / 256) (by omega)]
    congr 1
    omega
  have p3 : popN (m / 256 / 256) 16 = popN (m / 256 / 256 % 256) 8 + popN (m / 256 / 256 / 256) 8 := by
    rw [← popN_split (n := 8) (m0 := m / 256 / 256 % 256) (m1 := m / 256 / 256 / 256) (by omega)]
    congr 1
    omega
  rw [bcT_8 (m := m % 256) (by omega)] at d1
  rw [bcT_8 (m := m / 256 % 256) (by omega)] at d2
  rw [bcT_8 (m := m / 256 / 256 % 256) (by omega), bcT_8 (m := m / 256 / 256 / 256) (by omega)] at d3
  have l0 := popN_le (m % 256) 8
  have l1 := popN_le (m / 256 % 256) 8
  have l2 := popN_le (m / 256 / 256 % 256) 8
  have l3 := popN_le (m / 256 / 256 / 256) 8
  rw [p1, p2, p3]
  generalize popN (m % 256) 8 = q0 at *
  generalize popN (m / 256 % 256) 8 = q1 at *
  generalize popN (m / 256 / 256 % 256) 8 = q2 at *
  generalize popN (m / 256 / 256 / 256) 8 = q3 at *
  rw [d3] at d2
  rw [d2] at d1
  rw [d1]
  have h1 : (q0 + 256 * (q1 + 256 * (q2 + 256 * q3))) / 256 = q1 + 256 * (q2 + 256 * q3) := by omega
  rw [h1]
  have h2 : (q0 + 256 * (q1 + 256 * (q2 + 256 * q3)) + (q1 + 256 * (q2 + 256 * q3))) / 65536 = q2 + q3 + 256 * q3 := by omega
  rw [h2]
  omega
theorem zI_pred {n : Nat} (h : 1 ≤ n) : nI n + (-1) = nI (n - 1) := (Int32.sub_eq_add_neg (nI n) 1).symm.trans (zI_sub (b := 1) h)
theorem c_get {N z k : Nat} {f : Nat → Int32} (hz : z < 2 ^ 31) (hk : k < 2 ^ 31) : F_X5_get N z f (nI k) = some (if k < z then f k else 0) := by
  unfold F_X5_get
  rw [if_neg (Int32.not_lt.mpr (zI_pos hk))]
  by_cases h : k < z
  · rw [if_neg (show ¬ Int32.ofNat z ≤ nI k from ile_f h hz), if_pos (zI_inb h hz), if_pos h, zI_nat hk]
  · rw [if_pos (show Int32.ofNat z ≤ nI k from ile_t (by omega) hk), if_neg h]
theorem c_set {N z k : Nat} {f : Nat → Int32} {v : Int32} (hz : z < 2 ^ 31) (hk : k < z) : F_X5_set N z f (nI k) v = some (upd f k v) := by
  unfold F_X5_set
  rw [if_neg (Int32.not_lt.mpr (zI_pos (by omega))), if_neg (show ¬ Int32.ofNat z ≤ nI k from ile_f hk hz), if_pos (zI_inb hk hz)]
  simp only [jlet]
  rw [zI_nat (by omega)]
def insM (z : Nat) (f : Nat → Int32) (x : Nat) : Nat → Int32 := fun j => if x < j ∧ j < z then f (j - 1) else f j
def insA (z : Nat) (f : Nat → Int32) (i : Nat) (v : Int32) : Nat → Int32 := upd (insM z f i) i v
theorem insM_step {z x : Nat} {f : Nat → Int32} (hx : x + 1 < z) : upd (insM z f (x + 1)) (x + 1) (insM z f (x + 1) x) = insM z f x := by
  funext j
  have e : insM z f (x + 1) x = f x := if_neg (by omega)
  by_cases hj : j = x + 1
  · rw [hj, upd_eq, e]
    unfold insM
    rw [if_pos (by omega)]
    rfl
  · rw [upd_ne hj]
    unfold insM
    by_cases h : x + 1 < j ∧ j < z
    · rw [if_pos h, if_pos (by omega)]
    · rw [if_neg h, if_neg (by omega)]
theorem c_insL {N z i : Nat} {f : Nat → Int32} {v : Int32} (hz : z < 2 ^ 30) : ∀ (dd n x : Nat), x = i + dd → dd < n → x < z → D_X5_insertAt_8 N z n (insM z f x) (nI i) v (nI x) = some (insA z f i v) := by
  intro dd
  induction dd with
  | zero =>
    intro n x hx hn hxz
    obtain ⟨n, rfl⟩ : ∃ k, n = k + 1 := ⟨n - 1, by omega⟩
    have hx : x = i := by omega
    rw [hx, D_X5_insertAt_8, if_pos (ile_t (Nat.le_refl i) (by omega)), c_set (by omega) (by omega), Option.bind_some]
    rfl
  | succ dd ih =>
    intro n x hx hn hxz
    obtain ⟨n, rfl⟩ : ∃ k, n = k + 1 := ⟨n - 1, by omega⟩
    obtain ⟨y, rfl⟩ : ∃ y, x = y + 1 := ⟨x - 1, by omega⟩
    have e1 : nI (y + 1) - (1 : Int32) = nI y := zI_sub (a := y + 1) (b := 1) (by omega)
    have e2 : nI (y + 1) + (-1 : Int32) = nI y := zI_pred (Nat.le_add_left 1 y)
    rw [D_X5_insertAt_8, if_neg (ile_f (by omega) (by omega)), e1, c_get (by omega) (by omega), Option.bind_some, if_pos (by omega), c_set (by omega) hxz, Option.bind_some, e2, insM_step hxz]
    exact ih n y (by omega) (by omega) (by omega)
theorem c_insAt {N z i : Nat} {f : Nat → Int32} {v : Int32} (hN : z < N) (hz : z < 2 ^ 30) (hi : i < z) : F_X5_insertAt N z f (nI i) v = some (insA z f i v) := by
  unfold F_X5_insertAt
  have e0 : insM z f (z - 1) = f := by
    funext j
    exact if_neg (by omega)
  have e1 : Int32.ofNat z - (1 : Int32) = nI (z - 1) := zI_sub (a := z) (b := 1) (by omega)
  have h := c_insL (N := N) (z := z) (i := i) (f := f) (v := v) hz (z - 1 - i) N (z - 1) (by omega) (by omega) (by omega)
  rw [e0] at h
  rw [e1]
  exact h
theorem insA_lt {z i j : Nat} {f : Nat → Int32} {v : Int32} (h : j < i) : insA z f i v j = f j := by
  unfold insA
  rw [upd_ne (by omega)]
  exact if_neg (by omega)
theorem insA_eq {z i : Nat} {f : Nat → Int32} {v : Int32} : insA z f i v i = v := upd_eq
theorem insA_gt {z i j : Nat} {f : Nat → Int32} {v : Int32} (h : i < j) (hj : j < z) : insA z f i v j = f (j - 1) := by
  unfold insA
  rw [upd_ne (by omega)]
  exact if_pos ⟨h, hj⟩
theorem c_add53 {N i nr : Nat} {T : RM} {a b c d : Int32} (hN : 24 < N) (hi : i ≤ nr) (hnr : nr < 20) (d7 : T 0 5 = nI nr) : D_X4_add_53 N T a b c d (nI i) = some (d, stF (u1 (u1 (u1 T 15 (insA 20 (T 15) i a)) 16 (insA 20 (T 16) i b)) 17 (insA 20 (T 17) i c)) 5 (nI (nr + 1))) := by
  unfold D_X4_add_53
  rw [c_insAt (by omega) (by omega) (by omega), Option.bind_some]
  simp only [jlet]
  rw [show u1 T 15 (insA 20 (T 15) i a) 16 = T 16 from rfl, c_insAt (by omega) (by omega) (by omega), Option.bind_some, show u1 (u1 T 15 (insA 20 (T 15) i a)) 16 (insA 20 (T 16) i b) 17 = T 17 from rfl, c_insAt (by omega) (by omega) (by omega), Option.bind_some]
  show some (d, stF _ 5 (T 0 5 + 1)) = _
  rw [d7, zI_succ]
/-- the performances at which a subscription holds seats -/
def hsN (T : RM) (u : Nat) : Nat → Nat
  | 0 => 0
  | n + 1 => if (nv (T 12 n)).testBit u = true then hsN T u n ||| 2 ^ n else hsN T u n
theorem hsN_bit (T : RM) (u : Nat) : ∀ n i, (hsN T u n).testBit i = (decide (i < n) && (nv (T 12 i)).testBit u) := by
  intro n
  induction n with
  | zero => intro i; rw [hsN, Nat.zero_testBit, decide_eq_false (Nat.not_lt_zero i), Bool.false_and]
  | succ n ih =>
    intro i
    rw [hsN]
    by_cases h : (nv (T 12 n)).testBit u = true
    · rw [if_pos h, Nat.testBit_or, Nat.testBit_two_pow, ih]
      by_cases hi : n = i
      · subst hi
        rw [decide_eq_true rfl, Bool.or_true, decide_eq_true (Nat.lt_succ_self n), h]; rfl
      · rw [decide_eq_false hi, Bool.or_false]
        congr 1
        exact decide_eq_decide.mpr (by omega)
    · rw [if_neg h, ih]
      by_cases hi : i = n
      · subst hi
        have h' : (nv (T 12 i)).testBit u = false := by simpa using h
        rw [h', Bool.and_false, Bool.and_false]
      · congr 1
        exact decide_eq_decide.mpr (by omega)
theorem hsN_lt (T : RM) (u n : Nat) : hsN T u n < 2 ^ n := by
  refine Nat.lt_pow_two_of_testBit _ (fun i hi => ?_)
  rw [hsN_bit, decide_eq_false (by omega), Bool.false_and]
theorem c_isHeld {N : Nat} {T : RM} {u k b : Nat} (hu : u < 32) (hk : k < 24) (hb : T 12 k = nI b) : F_X2_isHeldBy N T (nI u) (nI k) = some (if b.testBit u = true then 1 else 0) := by
  unfold F_X2_isHeldBy
  rw [zI_rg hk (by omega), hb, jBit_nat b hu]
  by_cases h : b.testBit u = true
  · rw [if_pos h, if_pos (by decide)]
  · rw [if_neg h, if_pos (by decide)]
/-- begin and end of holding -/
theorem c_begin {N : Nat} {T : RM} {u k b h z : Nat} (hu : u < 31) (hk : k < 24) (hb : T 12 k = nI b) (hh : T 11 k = nI h) : F_X2_beginHolding N T (nI u) (nI k) (nI z) = some (u1 (u1 T 12 (upd (T 12) k (nI (b ||| 2 ^ u)))) 11 (upd (T 11) k (nI (h + z)))) := by
  unfold F_X2_beginHolding
  rw [zI_rg hk (by omega), hb, nI_shl u hu, nI_or, zI_rs hk (by omega)]
  simp only [jlet]
  rw [u1_ne (show (11 : Nat) ≠ 12 by decide), zI_rg hk (by omega), hh, zI_add, zI_rs hk (by omega)]
