def bt (x : Int32) (i : Nat) : Bool := x.toBitVec.getLsbD i
theorem b_ext {x y : Int32} (h : ∀ i, i < 32 → bt x i = bt y i) : x = y := Int32.toBitVec_inj.mp (BitVec.eq_of_getLsbD_eq (fun i hi => h i hi))
theorem b_or (x y : Int32) (i : Nat) : bt (x ||| y) i = (bt x i || bt y i) := by unfold bt; rw [Int32.toBitVec_or, BitVec.getLsbD_or]
theorem b_and (x y : Int32) (i : Nat) : bt (x &&& y) i = (bt x i && bt y i) := by unfold bt; rw [Int32.toBitVec_and, BitVec.getLsbD_and]
theorem b_xor (x y : Int32) (i : Nat) : bt (x ^^^ y) i = (bt x i ^^ bt y i) := by unfold bt; rw [Int32.toBitVec_xor, BitVec.getLsbD_xor]
theorem b_big {x : Int32} {i : Nat} (h : 32 ≤ i) : bt x i = false := BitVec.getLsbD_of_ge _ _ h
theorem b_255 (i : Nat) : bt 255 i = decide (i < 8) := by
  rcases Nat.lt_or_ge i 32 with h | h
  · exact (by decide +kernel : ∀ i, i < 32 → bt 255 i = decide (i < 8)) i h
  · rw [b_big h, decide_eq_false (by omega)]
theorem b_65535 (i : Nat) : bt 65535 i = decide (i < 16) := by
  rcases Nat.lt_or_ge i 32 with h | h
  · exact (by decide +kernel : ∀ i, i < 32 → bt 65535 i = decide (i < 16)) i h
  · rw [b_big h, decide_eq_false (by omega)]
theorem b_m1 : ∀ i, i < 32 → bt (-1) i = true := by decide +kernel
theorem b_0 (i : Nat) : bt 0 i = false := BitVec.getLsbD_zero
theorem s_l : ∀ n, n < 32 → ((nI n &&& 31).toBitVec.smod 32).toNat = n := by decide +kernel
theorem s_u : ∀ n, n < 32 → (((nI n).toUInt32 &&& Int32.toUInt32 31).toBitVec % 32).toNat = n := by decide +kernel
theorem b_shl (n : Nat) (hn : n < 32) (x : Int32) {i : Nat} (hi : i < 32) : bt (x <<< (nI n &&& 31)) i = (decide (n ≤ i) && bt x (i - n)) := by
  unfold bt
  rw [Int32.toBitVec_shiftLeft]
  show (x.toBitVec <<< ((nI n &&& 31).toBitVec.smod 32).toNat).getLsbD i = _
  rw [s_l n hn, BitVec.getLsbD_shiftLeft]
  rcases Nat.lt_or_ge i n with h | h
  · simp [h, Nat.not_le.mpr h]
  · simp [hi, h, Nat.not_lt.mpr h]
theorem b_ushr (n : Nat) (hn : n < 32) (x : Int32) (i : Nat) : bt ((x.toUInt32 >>> ((nI n).toUInt32 &&& Int32.toUInt32 31)).toInt32) i = bt x (n + i) := by
  show (x.toUInt32 >>> ((nI n).toUInt32 &&& Int32.toUInt32 31)).toBitVec.getLsbD i = x.toUInt32.toBitVec.getLsbD (n + i)
  rw [UInt32.toBitVec_shiftRight]
  show (x.toUInt32.toBitVec >>> (((nI n).toUInt32 &&& Int32.toUInt32 31).toBitVec % 32).toNat).getLsbD i = _
  rw [s_u n hn, BitVec.getLsbD_ushiftRight]
theorem b_sshr (n : Nat) (hn : n < 32) (x : Int32) {i : Nat} (hi : i < 32) : bt (x >>> (nI n &&& 31)) i = if n + i < 32 then bt x (n + i) else bt x 31 := by
  unfold bt
  rw [Int32.toBitVec_shiftRight]
  show (x.toBitVec.sshiftRight ((nI n &&& 31).toBitVec.smod 32).toNat).getLsbD i = _
  rw [s_l n hn, BitVec.getLsbD_sshiftRight, BitVec.msb_eq_getLsbD_last]
  simp [hi]
theorem b_1 (i : Nat) (hi : i < 32) : bt 1 i = decide (i = 0) := by
  have h : ∀ i, i < 32 → bt 1 i = decide (i = 0) := by decide +kernel
  exact h i hi
theorem b_nI (b u : Nat) (hu : u < 32) : bt (nI b) u = b.testBit u := by
  unfold bt
  show (BitVec.ofNat 32 b).getLsbD u = b.testBit u
  rw [BitVec.getLsbD_ofNat, decide_eq_true hu, Bool.true_and]
theorem bit1 (y : Int32) : y &&& (1 : Int32) = 1 ↔ bt y 0 = true := by
  constructor
  · intro h
    have h2 := b_and y 1 0
    rw [h, b_1 0 (by decide)] at h2
    simpa using h2.symm
  · intro h
    refine b_ext (fun i hi => ?_)
    rw [b_and, b_1 i hi]
    by_cases hz : i = 0
    · subst hz; rw [h]; rfl
    · rw [decide_eq_false hz, Bool.and_false]
theorem bit0 (y : Int32) : y &&& (1 : Int32) = 0 ↔ bt y 0 = false := by
  constructor
  · intro h
    have h2 := b_and y 1 0
    rw [h, b_1 0 (by decide), b_0] at h2
    simpa using h2.symm
  · intro h
    refine b_ext (fun i hi => ?_)
    rw [b_and, b_1 i hi, b_0]
    by_cases hz : i = 0
    · subst hz; rw [h]; rfl
    · rw [decide_eq_false hz, Bool.and_false]
theorem bitI_bt (x : Int32) {u : Nat} (hu : u < 32) : bitI x u ↔ bt x u = true := by
  show (x >>> (nI u &&& 31)) &&& (1 : Int32) = 1 ↔ _
  rw [bit1, b_sshr u hu x (by decide), if_pos (by omega), Nat.add_zero]
theorem bitI_nat (b : Nat) {u : Nat} (hu : u < 32) : bitI (nI b) u ↔ b.testBit u = true := by rw [bitI_bt _ hu, b_nI b u hu]
/-- the class's question for a member of a set -/
theorem jBit_nat (b : Nat) {u : Nat} (hu : u < 32) : jBit (nI b) (nI u) = if b.testBit u = true then 1 else 0 := by
  unfold jBit
  have h : (nI b >>> (nI u &&& 31)) &&& (1 : Int32) = 0 ↔ b.testBit u = false := by
    rw [bit0, b_sshr u hu _ (by decide), if_pos (by omega), Nat.add_zero, b_nI b u hu]
  by_cases hb : b.testBit u = true
  · rw [if_pos hb, if_neg (fun q => by rw [h.mp q] at hb; cases hb)]
  · rw [if_neg hb, if_pos (h.mpr (by simpa using hb))]
