/-! how a change of the class ends -/
theorem zI_div {a b : Nat} (ha : a < 2 ^ 31) (hb : b < 2 ^ 31) : nI a / nI b = nI (a / b) := by
  refine Int32.toInt_inj.mp ?_
  have h1 : a / b ≤ a := Nat.div_le_self a b
  rw [Int32.toInt_div, zI_int ha, zI_int hb, zI_int (by omega), ← Int.ofNat_tdiv]
  generalize a / b = q at h1 ⊢
  rw [Int.bmod_eq_of_le (by omega) (by omega)]
theorem zI_sub {a b : Nat} (h : b ≤ a) : nI a - nI b = nI (a - b) := by
  have e : nI a = nI (a - b) + nI b := by rw [zI_add]; congr 1; omega
  rw [e, Int32.add_sub_cancel]
theorem zI_pos {a : Nat} (h : a < 2 ^ 31) : 0 ≤ nI a := by
  rw [Int32.le_iff_toInt_le, zI_int h]
  have e : (0 : Int32).toInt = 0 := rfl
  omega
theorem zI_negI {a : Nat} (h : a < 2 ^ 31) : (-(nI a)).toInt = -(a : Int) := by
  rw [Int32.toInt_neg, zI_int h, Int.bmod_eq_of_le (by omega) (by omega)]
theorem jRef_eq {a d : Nat} (ha : a ≤ 9) (hd : d < 1000) : jRef (nI a) (nI d) = -(nI (a * 1000 + d)) := by
  unfold jRef
  rw [show (nI a * 1000 : Int32) = nI (a * 1000) from zI_mul a 1000, zI_add]
theorem z_close_ok {N : Nat} {S : Nat → Nat → Nat → Int32} {v : Int32} (h : 0 ≤ v) : F_X8_closeChange N S v = some (0, v, hClose S) := by
  unfold F_X8_closeChange
  rw [if_neg (Int32.not_lt.mpr h)]
  rfl
theorem z_close_1 {N : Nat} {S : Nat → Nat → Nat → Int32} : F_X8_closeChange N S (-1) = some (1, 0, S) := by
  unfold F_X8_closeChange
  rw [if_pos (by decide), if_pos rfl, if_neg (by decide)]
  rfl
theorem z_close_2 {N : Nat} {S : Nat → Nat → Nat → Int32} : F_X8_closeChange N S (-2) = some (2, 0, S) := by
  unfold F_X8_closeChange
  rw [if_pos (by decide), if_neg (by decide), if_pos (by decide), if_pos rfl]
  unfold D_X8_closeChange_37
  rw [if_neg (by decide)]
  rfl
theorem z_close_3 {N : Nat} {S : Nat → Nat → Nat → Int32} : F_X8_closeChange N S (-3) = some (3, 0, S) := by
  unfold F_X8_closeChange
  rw [if_pos (by decide), if_neg (by decide), if_pos (by decide), if_neg (by decide)]
  unfold D_X8_closeChange_37
  rw [if_pos (by decide), if_pos rfl]
theorem z_keepRef {N a d : Nat} {S : Nat → Nat → Nat → Int32} (ha1 : 1 ≤ a) (ha : a ≤ 9) (hd : d < 1000) : F_X8_keepRefusal N S (jRef (nI a) (nI d)) = some (stT (stT S 1 (nI a)) 2 (nI d)) := by
  have hm : a * 1000 + d < 2 ^ 31 := by omega
  rw [jRef_eq ha hd]
  unfold F_X8_keepRefusal
  have h1 : ¬ ((-1000 : Int32) < -(nI (a * 1000 + d))) := by
    rw [Int32.lt_iff_toInt_lt, zI_negI hm]
    have e : (-1000 : Int32).toInt = -1000 := rfl
    omega
  rw [if_neg h1]
  simp only [jlet]
  rw [Int32.neg_neg, show (nI (a * 1000 + d) / 1000 : Int32) = nI ((a * 1000 + d) / 1000) from zI_div (b := 1000) hm (by omega)]
  have e1 : (a * 1000 + d) / 1000 = a := by omega
  rw [e1, show (nI a * 1000 : Int32) = nI (a * 1000) from zI_mul a 1000, zI_sub (by omega)]
  have e2 : a * 1000 + d - a * 1000 = d := by omega
  rw [e2]
theorem z_close_ref {N a d : Nat} {S : Nat → Nat → Nat → Int32} (ha1 : 1 ≤ a) (ha : a ≤ 9) (hd : d < 1000) : F_X8_closeChange N S (jRef (nI a) (nI d)) = some (4, 0, stT (stT S 1 (nI a)) 2 (nI d)) := by
  have hm : a * 1000 + d < 2 ^ 31 := by omega
  have hk := z_keepRef (N := N) (S := S) ha1 ha hd
  have ht : (jRef (nI a) (nI d)).toInt = -((a * 1000 + d : Nat) : Int) := by rw [jRef_eq ha hd, zI_negI hm]
  generalize hv : jRef (nI a) (nI d) = v at hk ht
  have hne : ∀ z : Int32, -1000 < z.toInt → v ≠ z := by
    intro z hz h
    rw [h] at ht
    omega
  unfold F_X8_closeChange
  have hneg : v < 0 := by
    rw [Int32.lt_iff_toInt_lt, ht]
    have e : (0 : Int32).toInt = 0 := rfl
    omega
  rw [if_pos hneg, if_neg (hne (-1) (by decide)), if_pos (by decide), if_neg (hne (-2) (by decide))]
  unfold D_X8_closeChange_37
  rw [if_pos (by decide), if_neg (hne (-3) (by decide)), hk]
  rfl
