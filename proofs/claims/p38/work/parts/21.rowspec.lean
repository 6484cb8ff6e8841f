def bcnt (x : Int32) : Int32 := (F_J6_bitCount_0f7a4 0 x).getD 0
def jIn (v l h : Int32) : Int32 := if v < l then 0 else if h < v then 0 else 1
def jRef (a b : Int32) : Int32 := -((a * 1000) + b)
def jBit (x i : Int32) : Int32 := if ((x >>> (i &&& 31)) &&& (1 : Int32)) = 0 then 0 else 1
def rg (z : Nat) (f : Nat → Int32) (i : Int32) : Int32 := if inb i z = true then f i.toNatClampNeg else 0
def rs (z : Nat) (f : Nat → Int32) (i v : Int32) : Nat → Int32 := if inb i z = true then upd f i.toNatClampNeg v else f
theorem e_isWithin (N : Nat) (v l h : Int32) : F_X8_isWithin N v l h = some (jIn v l h) := by
  unfold F_X8_isWithin jIn
  split
  · rfl
  · split <;> rfl
theorem isB_jIn (v l h : Int32) : isB (jIn v l h) = true := by
  unfold jIn
  split
  · rfl
  · split <;> rfl
theorem e_isStage (N : Nat) (v : Int32) : F_X8_isStage N v = some (jIn v 0 2) := by
  unfold F_X8_isStage
  rw [e_isWithin, Option.bind_some, if_pos (isB_jIn _ _ _)]
theorem e_isDate (N : Nat) (v : Int32) : F_X8_isDate N v = some (jIn v 0 29) := by
  unfold F_X8_isDate
  rw [e_isWithin, Option.bind_some, if_pos (isB_jIn _ _ _)]
theorem e_isSeatKind (N : Nat) (v : Int32) : F_X8_isSeatKind N v = some (jIn v 0 2) := by
  unfold F_X8_isSeatKind
  rw [e_isWithin, Option.bind_some, if_pos (isB_jIn _ _ _)]
theorem e_isInSet (N : Nat) (v i : Int32) : F_X8_isInSet N v i = some (jBit v i) := by
  unfold F_X8_isInSet jBit
  split <;> rfl
theorem inb_yes {i : Int32} {z : Nat} (h : inb i z = true) (hz : z < 2147483648) : ∃ j : Nat, j < z ∧ i = nI j := vp_in_of (inb_of h) hz
theorem inb_nI {j z : Nat} (h : j < z) (hz : z < 2147483648) : inb (nI j) z = true := decide_eq_true (show vp_in (nI j) z from vp_in_nI h hz)
theorem inb_no {i : Int32} {z : Nat} (h : ¬ inb i z = true) (hz : z < 2147483648) : i < 0 ∨ Int32.ofNat z ≤ i := by
  rcases pk_ix i hz with h1 | h1 | ⟨j, hj, h1⟩
  · exact Or.inl h1
  · exact Or.inr h1
  · exact absurd (by rw [h1]; exact inb_nI hj hz) h
theorem inb_lt {i : Int32} {z : Nat} (h : inb i z = true) (hz : z < 2147483648) : ¬ i < 0 ∧ ¬ Int32.ofNat z ≤ i := by
  obtain ⟨j, hj, rfl⟩ := inb_yes h hz
  exact ⟨nI_pos (by omega), nI_ge hj hz⟩
theorem e_get (N : Nat) {z : Nat} (hz : z < 2147483648) (f : Nat → Int32) (i : Int32) : F_X5_get N z f i = some (rg z f i) := by
  unfold F_X5_get rg
  by_cases h : inb i z = true
  · obtain ⟨h1, h2⟩ := inb_lt h hz
    rw [if_neg h1, if_neg h2, if_pos h, if_pos h]
  · rw [if_neg h, if_neg h]
    rcases inb_no h hz with h1 | h1
    · rw [if_pos h1]
    · rw [if_pos h1]
      split <;> rfl
theorem e_set (N : Nat) {z : Nat} (hz : z < 2147483648) (f : Nat → Int32) (i v : Int32) : F_X5_set N z f i v = some (rs z f i v) := by
  unfold F_X5_set rs jlet
  by_cases h : inb i z = true
  · obtain ⟨h1, h2⟩ := inb_lt h hz
    rw [if_neg h1, if_neg h2, if_pos h, if_pos h]
  · rw [if_neg h, if_neg h]
    rcases inb_no h hz with h1 | h1
    · rw [if_pos h1]
    · rw [if_pos h1]
      split <;> rfl
theorem e_add (N : Nat) {z : Nat} (hz : z < 2147483648) (f : Nat → Int32) (i v : Int32) : F_X5_add N z f i v = some (rs z f i (rg z f i + v)) := by
  unfold F_X5_add
  rw [e_get N hz, Option.bind_some, e_set N hz, Option.bind_some]
theorem kt_bitCount (l : Launch) (D : va_G) (G : Nat → ClassId)    (v0 : Int32) : pM l yJ6_bitCount_0f7a4 (jws yJ6_bitCount_0f7a4 cJ6_bitCount_0f7a4 1 (some .int)) ({ frames := 0, cells := 0, slots := 0, locals := 0 } : Room) [.int v0] D G ([] : va_W) (some (.int (bcnt v0))) :=
  k_J6_bitCount_0f7a4 l D G  0 v0 _ (rfl)
theorem kt_X8_isWithin (l : Launch) (D : va_G) (G : Nat → ClassId)    (v0 v1 v2 : Int32) : pM l yX8_isWithin (jws yX8_isWithin cX8_isWithin 3 (some .boolean)) ({ frames := 0, cells := 0, slots := 0, locals := 0 } : Room) [.int v0, .int v1, .int v2] D G ([] : va_W) (some (.int (jIn v0 v1 v2))) :=
  k_X8_isWithin l D G  0 v0 v1 v2 _ (e_isWithin 0 v0 v1 v2)
theorem kt_X8_isStage (l : Launch) (D : va_G) (G : Nat → ClassId)    (v0 : Int32) : pM l yX8_isStage (jws yX8_isStage cX8_isStage 1 (some .boolean)) ({ frames := 1, cells := 0, slots := 0, locals := 22 } : Room) [.int v0] D G ([] : va_W) (some (.int (jIn v0 0 2))) :=
  k_X8_isStage l D G  0 v0 _ (e_isStage 0 v0)
theorem kt_X8_isDate (l : Launch) (D : va_G) (G : Nat → ClassId)    (v0 : Int32) : pM l yX8_isDate (jws yX8_isDate cX8_isDate 1 (some .boolean)) ({ frames := 1, cells := 0, slots := 0, locals := 22 } : Room) [.int v0] D G ([] : va_W) (some (.int (jIn v0 0 29))) :=
  k_X8_isDate l D G  0 v0 _ (e_isDate 0 v0)
theorem kt_X8_isSeatKind (l : Launch) (D : va_G) (G : Nat → ClassId)    (v0 : Int32) : pM l yX8_isSeatKind (jws yX8_isSeatKind cX8_isSeatKind 1 (some .boolean)) ({ frames := 1, cells := 0, slots := 0, locals := 22 } : Room) [.int v0] D G ([] : va_W) (some (.int (jIn v0 0 2))) :=
  k_X8_isSeatKind l D G  0 v0 _ (e_isSeatKind 0 v0)
theorem kt_X8_refusal (l : Launch) (D : va_G) (G : Nat → ClassId)    (v0 v1 : Int32) : pM l yX8_refusal (jws yX8_refusal cX8_refusal 2 (some .int)) ({ frames := 0, cells := 0, slots := 0, locals := 0 } : Room) [.int v0, .int v1] D G ([] : va_W) (some (.int (jRef v0 v1))) :=
  k_X8_refusal l D G  0 v0 v1 _ (rfl)
theorem kt_X8_isInSet (l : Launch) (D : va_G) (G : Nat → ClassId)    (v0 v1 : Int32) : pM l yX8_isInSet (jws yX8_isInSet cX8_isInSet 2 (some .boolean)) ({ frames := 0, cells := 0, slots := 0, locals := 0 } : Room) [.int v0, .int v1] D G ([] : va_W) (some (.int (jBit v0 v1))) :=
  k_X8_isInSet l D G  0 v0 v1 _ (e_isInSet 0 v0 v1)
theorem kt_X5_get (l : Launch) (D : va_G) (G : Nat → ClassId) (q b z : Nat)  (hz : z < 2147483648) (M : Nat → Int32) (v1 : Int32) : pM l yX5_get (jws yX5_get cX5_get 2 (some .int)) ({ frames := 0, cells := 0, slots := 0, locals := 0 } : Room) [.ref q, .int v1] D G (wRow q b z G M) (some (.int (rg z M v1))) :=
  k_X5_get l D G q b z 0 M v1 _ (e_get 0 hz M v1)
theorem kt_X5_set (l : Launch) (D : va_G) (G : Nat → ClassId) (q b z : Nat)  (hz : z < 2147483648) (M : Nat → Int32) (v1 v2 : Int32) : mM l yX5_set (jws yX5_set cX5_set 3 none) ({ frames := 0, cells := 0, slots := 0, locals := 0 } : Room) [.ref q, .int v1, .int v2] D G (wRow q b z G M) (wRow q b z G (rs z M v1 v2)) none :=
  k_X5_set l D G q b z 0 M v1 v2 _ (e_set 0 hz M v1 v2)
theorem kt_X5_add (l : Launch) (D : va_G) (G : Nat → ClassId) (q b z : Nat)  (hz : z < 2147483648) (M : Nat → Int32) (v1 v2 : Int32) : mM l yX5_add (jws yX5_add cX5_add 3 none) ({ frames := 1, cells := 0, slots := 0, locals := 22 } : Room) [.ref q, .int v1, .int v2] D G (wRow q b z G M) (wRow q b z G (rs z M v1 (rg z M v1 + v2))) none :=
  k_X5_add l D G q b z 0 M v1 v2 _ (e_add 0 hz M v1 v2)
