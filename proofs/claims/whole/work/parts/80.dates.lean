/-! sets of dates: what the class computes -/
theorem nI_and (a b : Nat) : nI a &&& nI b = nI (a &&& b) := b_ext (fun i hi => by rw [b_and, b_nI _ _ hi, b_nI _ _ hi, b_nI _ _ hi, Nat.testBit_and])
theorem nI_or (a b : Nat) : nI a ||| nI b = nI (a ||| b) := b_ext (fun i hi => by rw [b_or, b_nI _ _ hi, b_nI _ _ hi, b_nI _ _ hi, Nat.testBit_or])
theorem nI_shl : ∀ d, d < 31 → (1 : Int32) <<< (nI d &&& 31) = nI (2 ^ d) := by decide +kernel
theorem nI_shr (m : Nat) {d : Nat} (hm : m < 2 ^ 31) (hd : d < 32) : nI m >>> (nI d &&& 31) = nI (m / 2 ^ d) := by
  refine b_ext (fun i hi => ?_)
  rw [b_sshr d hd _ hi, b_nI _ _ hi, Nat.testBit_div_two_pow, Nat.add_comm i d]
  by_cases h : d + i < 32
  · rw [if_pos h, b_nI _ _ h]
  · rw [if_neg h, b_nI _ _ (by decide), Nat.testBit_lt_two_pow hm, Nat.testBit_lt_two_pow (Nat.lt_of_lt_of_le hm (Nat.pow_le_pow_right (by decide) (by omega)))]
/-- between its first and its last date, and not on one of them -/
def stN (m d : Nat) : Bool := !(decide (m % 2 ^ d = 0)) && (!(decide (m / 2 ^ d = 0)) && !(m.testBit d))
theorem c_isStored {N m d : Nat} (hm : m < 2 ^ 30) (hd : d < 30) : F_X3_isStored N (nI m) (nI d) = some (if stN m d = true then 1 else 0) := by
  have h1 : (nI m &&& (((1 : Int32) <<< (nI d &&& 31)) - (1 : Int32))) = nI (m % 2 ^ d) := by
    rw [nI_shl d (by omega), show nI (2 ^ d) - 1 = nI (2 ^ d - 1) from zI_sub (b := 1) Nat.one_le_two_pow, nI_and, Nat.and_two_pow_sub_one_eq_mod]
  have h2 := nI_shr m (show m < 2 ^ 31 by omega) (show d < 32 by omega)
  have q1 : m % 2 ^ d < 2 ^ 31 := Nat.lt_of_le_of_lt (Nat.mod_le _ _) (by omega)
  have q2 : m / 2 ^ d < 2 ^ 31 := Nat.lt_of_le_of_lt (Nat.div_le_self _ _) (by omega)
  have e1 : (nI (m % 2 ^ d) = 0) ↔ m % 2 ^ d = 0 := zI_eq (b := 0) q1 (by omega)
  have e2 : (nI (m / 2 ^ d) = 0) ↔ m / 2 ^ d = 0 := zI_eq (b := 0) q2 (by omega)
  have e3 : ((nI m >>> (nI d &&& 31)) &&& (1 : Int32)) = 0 ↔ m.testBit d = false := by
    rw [bit0, b_sshr d (by omega) _ (by decide), if_pos (by omega), Nat.add_zero, b_nI m d (by omega)]
  rw [h2] at e3
  unfold F_X3_isStored D_X3_isStored_15 D_X3_isStored_27 D_X3_isStored_41
  rw [h1, h2]
  unfold stN
  have n10 : ¬ ((1 : Int32) = 0) := by decide
  by_cases a3 : m.testBit d = true
  · have n3 : ¬ ((nI (m / 2 ^ d) &&& (1 : Int32)) = 0) := fun q => by rw [e3.mp q] at a3; cases a3
    by_cases a1 : m % 2 ^ d = 0
    · by_cases a2 : m / 2 ^ d = 0
      · simp [if_neg n3, if_pos (e1.mpr a1), if_pos (e2.mpr a2), a3]
      · simp [if_neg n3, if_pos (e1.mpr a1), if_neg (fun q => a2 (e2.mp q)), a3]
    · by_cases a2 : m / 2 ^ d = 0
      · simp [if_neg n3, if_neg (fun q => a1 (e1.mp q)), if_pos (e2.mpr a2), a3]
      · simp [if_neg n3, if_neg (fun q => a1 (e1.mp q)), if_neg (fun q => a2 (e2.mp q)), a3]
  · have a3' : m.testBit d = false := by simpa using a3
    have p3 : (nI (m / 2 ^ d) &&& (1 : Int32)) = 0 := e3.mpr a3'
    by_cases a1 : m % 2 ^ d = 0
    · by_cases a2 : m / 2 ^ d = 0
      · simp [if_pos p3, if_pos (e1.mpr a1), if_pos (e2.mpr a2), a3', a1]
      · simp [if_pos p3, if_pos (e1.mpr a1), if_neg (fun q => a2 (e2.mp q)), a3', a1]
        try rfl
    · by_cases a2 : m / 2 ^ d = 0
      · simp [if_pos p3, if_neg (fun q => a1 (e1.mp q)), if_pos (e2.mpr a2), a3', a2]
        try exact fun h => absurd rfl h
      · simp [if_pos p3, if_neg (fun q => a1 (e1.mp q)), if_neg (fun q => a2 (e2.mp q)), a3', a1, a2]
/-- the productions' sets of dates, one of them changed -/
def DW (T : RM) (c cd : Int32) : Nat → Int32 := fun p => if nI p = c then cd else T 6 p
def DOk (D : Nat → Int32) (np : Nat) : Prop := ∀ p, p < np → ∃ m, D p = nI m ∧ m < 2 ^ 30
def ZOk (Z : Nat → Int32) (np b : Nat) : Prop := ∀ p, p < np → ∃ z, Z p = nI z ∧ z ≤ b
def loadN (D Z : Nat → Int32) (np d : Nat) : Nat := sumN (fun p => if stN (nv (D p)) d = true then nv (Z p) else 0) np
def maxN (f : Nat → Nat) : Nat → Nat
  | 0 => 0
  | n + 1 => if maxN f n < f n then f n else maxN f n
theorem maxN_bd {f : Nat → Nat} {n b : Nat} (h : ∀ k, k < n → f k ≤ b) : maxN f n ≤ b := by
  induction n with
  | zero => exact Nat.zero_le _
  | succ n ih =>
    rw [maxN]
    by_cases q : maxN f n < f n
    · rw [if_pos q]; exact h n (Nat.lt_succ_self n)
    · rw [if_neg q]; exact ih (fun k hk => h k (Nat.lt_succ_of_lt hk))
theorem maxN_congr {f g : Nat → Nat} {n : Nat} (h : ∀ k, k < n → f k = g k) : maxN f n = maxN g n := by
  induction n with
  | zero => rfl
  | succ n ih => rw [maxN, maxN, ih (fun k hk => h k (Nat.lt_succ_of_lt hk)), h n (Nat.lt_succ_self n)]
theorem crewN_bd {D C : Nat → Int32} {np d : Nat} (hnp : np ≤ 8) (hC : ZOk C np 6) : crewN D C np d ≤ 48 := by
  refine Nat.le_trans (sumN_bd (c := 6) (fun p hp => ?_)) (by omega)
  obtain ⟨z, hz, hb⟩ := hC p hp
  by_cases h : (nv (D p)).testBit d = true
  · rw [if_pos h, hz, nv_nI (by omega)]; exact hb
  · rw [if_neg h]; exact Nat.zero_le _
theorem loadN_bd {D Z : Nat → Int32} {np d : Nat} (hnp : np ≤ 8) (hZ : ZOk Z np 9) : loadN D Z np d ≤ 72 := by
  refine Nat.le_trans (sumN_bd (c := 9) (fun p hp => ?_)) (by omega)
  obtain ⟨z, hz, hb⟩ := hZ p hp
  by_cases h : stN (nv (D p)) d = true
  · rw [if_pos h, hz, nv_nI (by omega)]; exact hb
  · rw [if_neg h]; exact Nat.zero_le _
theorem c_ifW {α : Type} {T : RM} {c cd : Int32} {p : Nat} (hp : p < 8) (k : Int32 → α) : (if nI p = c then k cd else k (rg 8 (T 6) (nI p))) = k (DW T c cd p) := by
  unfold DW
  by_cases h : nI p = c
  · rw [if_pos h, if_pos h]
  · rw [if_neg h, if_neg h, zI_rg hp (by decide)]
theorem c_crewIf {N : Nat} {T : RM} {np d : Nat} {c cd : Int32} (hN : 8 < N) (hnp : np ≤ 8) (h2 : T 0 2 = nI np) (hd : d < 30) (hD : DOk (DW T c cd) np) (hC : ZOk (T 3) np 6) : F_X3_crewIf N T (nI d) c cd = some (nI (crewN (DW T c cd) (T 3) np d)) := by
  unfold F_X3_crewIf
  refine loopN (fun n a i => D_X3_crewIf_6 N T n (nI d) c cd a i) (fun i => nI (crewN (DW T c cd) (T 3) i d)) np _ (fun n => ?_) (fun n i hi => ?_) np N 0 (by omega) (by omega)
  · show D_X3_crewIf_6 N T (n + 1) (nI d) c cd (nI (crewN (DW T c cd) (T 3) np d)) (nI np) = _
    rw [D_X3_crewIf_6, h2, if_pos (ile_t (Nat.le_refl np) (by omega))]
  · show D_X3_crewIf_6 N T (n + 1) (nI d) c cd (nI (crewN (DW T c cd) (T 3) i d)) (nI i) = D_X3_crewIf_6 N T n (nI d) c cd (nI (crewN (DW T c cd) (T 3) (i + 1) d)) (nI (i + 1))
    obtain ⟨m, hm, hm2⟩ := hD i hi
    obtain ⟨z, hz, hz2⟩ := hC i hi
    have hs : crewN (DW T c cd) (T 3) (i + 1) d = crewN (DW T c cd) (T 3) i d + (if m.testBit d = true then z else 0) := by
      unfold crewN
      rw [sumN, hm, hz, nv_nI (by omega), nv_nI (by omega)]
    rw [D_X3_crewIf_6, h2, if_neg (ile_f hi (by omega)), c_ifW (show i < 8 by omega) (fun q => D_X3_crewIf_34 N T (D_X3_crewIf_6 N T n) (nI d) c cd (nI (crewN (DW T c cd) (T 3) i d)) (nI i) q)]
    show D_X3_crewIf_34 N T (D_X3_crewIf_6 N T n) (nI d) c cd (nI (crewN (DW T c cd) (T 3) i d)) (nI i) (DW T c cd i) = _
    rw [D_X3_crewIf_34, zI_rg (by omega) (by omega), zI_succ, hm, hz, jBit_nat _ (by omega), hs]
    by_cases hb : m.testBit d = true
    · rw [if_pos hb, if_neg (by decide), if_pos hb, zI_add]
    · rw [if_neg hb, if_pos rfl, if_neg hb]; rfl
theorem c_loadIf {N : Nat} {T : RM} {np d : Nat} {c cd : Int32} (hN : 8 < N) (hnp : np ≤ 8) (h2 : T 0 2 = nI np) (hd : d < 30) (hD : DOk (DW T c cd) np) (hZ : ZOk (T 2) np 9) : F_X3_loadIf N T (nI d) c cd = some (nI (loadN (DW T c cd) (T 2) np d)) := by
  unfold F_X3_loadIf
  refine loopN (fun n a i => D_X3_loadIf_6 N T n (nI d) c cd a i) (fun i => nI (loadN (DW T c cd) (T 2) i d)) np _ (fun n => ?_) (fun n i hi => ?_) np N 0 (by omega) (by omega)
  · show D_X3_loadIf_6 N T (n + 1) (nI d) c cd (nI (loadN (DW T c cd) (T 2) np d)) (nI np) = _
    rw [D_X3_loadIf_6, h2, if_pos (ile_t (Nat.le_refl np) (by omega))]
  · show D_X3_loadIf_6 N T (n + 1) (nI d) c cd (nI (loadN (DW T c cd) (T 2) i d)) (nI i) = D_X3_loadIf_6 N T n (nI d) c cd (nI (loadN (DW T c cd) (T 2) (i + 1) d)) (nI (i + 1))
    obtain ⟨m, hm, hm2⟩ := hD i hi
    obtain ⟨z, hz, hz2⟩ := hZ i hi
    have hs : loadN (DW T c cd) (T 2) (i + 1) d = loadN (DW T c cd) (T 2) i d + (if stN m d = true then z else 0) := by
      unfold loadN
      rw [sumN, hm, hz, nv_nI (by omega), nv_nI (by omega)]
    rw [D_X3_loadIf_6, h2, if_neg (ile_f hi (by omega)), c_ifW (show i < 8 by omega) (fun q => D_X3_loadIf_34 N T (D_X3_loadIf_6 N T n) (nI d) c cd (nI (loadN (DW T c cd) (T 2) i d)) (nI i) q)]
    show D_X3_loadIf_34 N T (D_X3_loadIf_6 N T n) (nI d) c cd (nI (loadN (DW T c cd) (T 2) i d)) (nI i) (DW T c cd i) = _
    rw [D_X3_loadIf_34, zI_rg (by omega) (by omega), zI_succ, hm, hz, c_isStored hm2 hd, Option.bind_some, hs]
    by_cases hb : stN m d = true
    · rw [if_pos hb, if_neg (by decide), if_pos hb, zI_add]
    · rw [if_neg hb, if_pos rfl, if_neg hb]; rfl
theorem c_peakIf {N : Nat} {T : RM} {np : Nat} {c cd : Int32} (hN : 30 < N) (hnp : np ≤ 8) (h2 : T 0 2 = nI np) (hD : DOk (DW T c cd) np) (hZ : ZOk (T 2) np 9) : F_X3_peakIf N T c cd = some (nI (maxN (loadN (DW T c cd) (T 2) np) 30)) := by
  unfold F_X3_peakIf
  have hb : ∀ i, maxN (loadN (DW T c cd) (T 2) np) i ≤ 72 := fun i => maxN_bd (fun k _ => loadN_bd hnp hZ)
  refine loopN (fun n a i => D_X3_peakIf_5 N T n c cd a i) (fun i => nI (maxN (loadN (DW T c cd) (T 2) np) i)) 30 _ (fun n => ?_) (fun n i hi => ?_) 30 N 0 (by omega) (by omega)
  · show D_X3_peakIf_5 N T (n + 1) c cd (nI (maxN (loadN (DW T c cd) (T 2) np) 30)) (nI 30) = _
    rw [D_X3_peakIf_5, if_pos (by decide)]
  · show D_X3_peakIf_5 N T (n + 1) c cd (nI (maxN (loadN (DW T c cd) (T 2) np) i)) (nI i) = D_X3_peakIf_5 N T n c cd (nI (maxN (loadN (DW T c cd) (T 2) np) (i + 1))) (nI (i + 1))
    have h1 := hb i
    have h3 := loadN_bd (D := DW T c cd) (d := i) hnp hZ
    rw [D_X3_peakIf_5, if_neg (show ¬ (30 : Int32) ≤ nI i from ile_f (a := 30) hi (by omega)), c_loadIf (by omega) hnp h2 hi hD hZ, Option.bind_some, zI_succ, maxN]
    by_cases q : maxN (loadN (DW T c cd) (T 2) np) i < loadN (DW T c cd) (T 2) np i
    · rw [if_pos q, if_pos ((zI_lt (by omega) (by omega)).mpr q)]
    · rw [if_neg q, if_neg (fun w => q ((zI_lt (by omega) (by omega)).mp w))]
theorem isub_le {a b : Nat} (ha : a < 2 ^ 30) (hb : b < 2 ^ 30) : nI a - nI b ≤ 0 ↔ a ≤ b := by
  rw [Int32.le_iff_toInt_le, Int32.toInt_sub, zI_int (by omega), zI_int (by omega), Int.bmod_eq_of_le (by omega) (by omega)]
  have e : (0 : Int32).toInt = 0 := rfl
  omega
theorem c_staff {N : Nat} {T : RM} {np st : Nat} {c cd : Int32} (hN : 30 < N) (hnp : np ≤ 8) (h2 : T 0 2 = nI np) (hst : st ≤ 20) (hD : DOk (DW T c cd) np) (hC : ZOk (T 3) np 6) :
    ((∀ d, d < 30 → crewN (DW T c cd) (T 3) np d ≤ st) ∧ F_X3_staffRefusalIf N T (nI st) c cd = some 0) ∨ ∃ d, d < 30 ∧ st < crewN (DW T c cd) (T 3) np d ∧ (∀ x, x < d → crewN (DW T c cd) (T 3) np x ≤ st) ∧ F_X3_staffRefusalIf N T (nI st) c cd = some (jRef 2 (nI (crewN (DW T c cd) (T 3) np d - st))) := by
  have hb : ∀ d, crewN (DW T c cd) (T 3) np d ≤ 48 := fun d => crewN_bd hnp hC
  have key := loopE (fun n i => D_X3_staffRefusalIf_3 N T n (nI st) c cd i) (fun d => st < crewN (DW T c cd) (T 3) np d) 30 (some 0) (fun d => some (jRef 2 (nI (crewN (DW T c cd) (T 3) np d - st))))
    (fun n => by show D_X3_staffRefusalIf_3 N T (n + 1) (nI st) c cd (nI 30) = _; rw [D_X3_staffRefusalIf_3, if_pos (by decide)])
    (fun n i hi hp => by
      show D_X3_staffRefusalIf_3 N T (n + 1) (nI st) c cd (nI i) = D_X3_staffRefusalIf_3 N T n (nI st) c cd (nI (i + 1))
      have h1 := hb i
      rw [D_X3_staffRefusalIf_3, if_neg (show ¬ (30 : Int32) ≤ nI i from ile_f (a := 30) hi (by omega)), c_crewIf (by omega) hnp h2 hi hD hC, Option.bind_some, if_pos ((isub_le (by omega) (by omega)).mpr (Nat.le_of_not_lt hp)), zI_succ])
    (fun n i hi hp => by
      show D_X3_staffRefusalIf_3 N T (n + 1) (nI st) c cd (nI i) = some (jRef 2 (nI (crewN (DW T c cd) (T 3) np i - st)))
      have h1 := hb i
      rw [D_X3_staffRefusalIf_3, if_neg (show ¬ (30 : Int32) ≤ nI i from ile_f (a := 30) hi (by omega)), c_crewIf (by omega) hnp h2 hi hD hC, Option.bind_some, if_neg (fun q => absurd ((isub_le (by omega) (by omega)).mp q) (by omega)), zI_sub (by omega)]) 30 N 0 (by omega) (by omega)
  rcases key with ⟨a, b⟩ | ⟨j, _, b, e, f, g⟩
  · exact Or.inl ⟨fun d hd => Nat.le_of_not_lt (a d (Nat.zero_le d) hd), b⟩
  · exact Or.inr ⟨j, b, e, fun x hx => Nat.le_of_not_lt (f x (Nat.zero_le x) hx), g⟩
theorem c_room {N : Nat} {T : RM} {np rm : Nat} {c cd : Int32} (hN : 30 < N) (hnp : np ≤ 8) (h2 : T 0 2 = nI np) (hrm : rm ≤ 99) (hD : DOk (DW T c cd) np) (hZ : ZOk (T 2) np 9) :
    ((∀ d, d < 30 → loadN (DW T c cd) (T 2) np d ≤ rm) ∧ F_X3_roomRefusalIf N T (nI rm) c cd = some 0) ∨ ∃ d, d < 30 ∧ rm < loadN (DW T c cd) (T 2) np d ∧ (∀ x, x < d → loadN (DW T c cd) (T 2) np x ≤ rm) ∧ F_X3_roomRefusalIf N T (nI rm) c cd = some (jRef 3 (nI d)) := by
  have hb : ∀ d, loadN (DW T c cd) (T 2) np d ≤ 72 := fun d => loadN_bd hnp hZ
  have key := loopE (fun n i => D_X3_roomRefusalIf_3 N T n (nI rm) c cd i) (fun d => rm < loadN (DW T c cd) (T 2) np d) 30 (some 0) (fun d => some (jRef 3 (nI d)))
    (fun n => by show D_X3_roomRefusalIf_3 N T (n + 1) (nI rm) c cd (nI 30) = _; rw [D_X3_roomRefusalIf_3, if_pos (by decide)])
    (fun n i hi hp => by
      show D_X3_roomRefusalIf_3 N T (n + 1) (nI rm) c cd (nI i) = D_X3_roomRefusalIf_3 N T n (nI rm) c cd (nI (i + 1))
      have h1 := hb i
      rw [D_X3_roomRefusalIf_3, if_neg (show ¬ (30 : Int32) ≤ nI i from ile_f (a := 30) hi (by omega)), c_loadIf (by omega) hnp h2 hi hD hZ, Option.bind_some, if_pos (ile_t (Nat.le_of_not_lt hp) (by omega)), zI_succ])
    (fun n i hi hp => by
      show D_X3_roomRefusalIf_3 N T (n + 1) (nI rm) c cd (nI i) = some (jRef 3 (nI i))
      have h1 := hb i
      rw [D_X3_roomRefusalIf_3, if_neg (show ¬ (30 : Int32) ≤ nI i from ile_f (a := 30) hi (by omega)), c_loadIf (by omega) hnp h2 hi hD hZ, Option.bind_some, if_neg (ile_f hp (by omega))]) 30 N 0 (by omega) (by omega)
  rcases key with ⟨a, b⟩ | ⟨j, _, b, e, f, g⟩
  · exact Or.inl ⟨fun d hd => Nat.le_of_not_lt (a d (Nat.zero_le d) hd), b⟩
  · exact Or.inr ⟨j, b, e, fun x hx => Nat.le_of_not_lt (f x (Nat.zero_le x) hx), g⟩
