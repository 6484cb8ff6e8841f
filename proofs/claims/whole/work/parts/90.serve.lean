/-! rows: one taken out, one put in -/
theorem c_get {N z k : Nat} {f : Nat → Int32} (hz : z < 2 ^ 31) (hk : k < 2 ^ 31) : F_X5_get N z f (nI k) = some (if k < z then f k else 0) := by
  unfold F_X5_get
  rw [if_neg (Int32.not_lt.mpr (zI_pos hk))]
  by_cases h : k < z
  · rw [if_neg (show ¬ Int32.ofNat z ≤ nI k from ile_f h hz), if_pos (zI_inb h hz), if_pos h, zI_nat hk]
  · rw [if_pos (show Int32.ofNat z ≤ nI k from ile_t (by omega) hk), if_neg h]
theorem c_set {N z k : Nat} {f : Nat → Int32} {v : Int32} (hz : z < 2 ^ 31) (hk : k < z) : F_X5_set N z f (nI k) v = some (upd f k v) := by
  unfold F_X5_set
  rw [if_neg (Int32.not_lt.mpr (zI_pos (by omega))), if_neg (show ¬ Int32.ofNat z ≤ nI k from ile_f hk hz), if_pos (zI_inb hk hz)]
  simp only [jlet]
  rw [zI_nat (by omega)]
def rmA (z : Nat) (f : Nat → Int32) (i x : Nat) : Nat → Int32 := fun j => if i ≤ j ∧ j < x then (if j + 1 < z then f (j + 1) else 0) else f j
theorem rmA_step {z i x : Nat} {f : Nat → Int32} (hix : i ≤ x) : upd (rmA z f i x) x (if x + 1 < z then rmA z f i x (x + 1) else 0) = rmA z f i (x + 1) := by
  funext j
  have e : rmA z f i x (x + 1) = f (x + 1) := if_neg (by omega)
  by_cases hj : j = x
  · rw [hj, upd_eq, e]
    exact (if_pos (show i ≤ x ∧ x < x + 1 by omega)).symm
  · rw [upd_ne hj]
    show (if i ≤ j ∧ j < x then (if j + 1 < z then f (j + 1) else 0) else f j) = if i ≤ j ∧ j < x + 1 then (if j + 1 < z then f (j + 1) else 0) else f j
    by_cases h : i ≤ j ∧ j < x
    · rw [if_pos h, if_pos (show i ≤ j ∧ j < x + 1 by omega)]
    · rw [if_neg h, if_neg (by omega)]
theorem c_rmL {N z i : Nat} {f : Nat → Int32} (hz : z < 2 ^ 30) : ∀ (dd n x : Nat), x + dd = z → dd < n → i ≤ x → D_X5_removeAt_2 N z n (rmA z f i x) (nI x) = some (rmA z f i z) := by
  intro dd
  induction dd with
  | zero =>
    intro n x hx hn hi
    obtain ⟨n, rfl⟩ : ∃ k, n = k + 1 := ⟨n - 1, by omega⟩
    have hx : x = z := by omega
    rw [hx, D_X5_removeAt_2, if_pos (show Int32.ofNat z ≤ nI z from ile_t (Nat.le_refl z) (by omega))]
  | succ dd ih =>
    intro n x hx hn hi
    obtain ⟨n, rfl⟩ : ∃ k, n = k + 1 := ⟨n - 1, by omega⟩
    rw [D_X5_removeAt_2, if_neg (show ¬ Int32.ofNat z ≤ nI x from ile_f (by omega) (by omega)), show nI x + (1 : Int32) = nI (x + 1) from zI_succ x, c_get (by omega) (by omega), Option.bind_some, c_set (by omega) (by omega), Option.bind_some, rmA_step hi]
    exact ih n (x + 1) (by omega) (by omega) (by omega)
theorem c_rmAt {N z i : Nat} {f : Nat → Int32} (hN : z < N) (hz : z < 2 ^ 30) (hi : i < z) : F_X5_removeAt N z f (nI i) = some (rmA z f i z) := by
  unfold F_X5_removeAt
  have e0 : rmA z f i i = f := by
    funext j
    exact if_neg (by omega)
  have h := c_rmL (N := N) (z := z) (i := i) (f := f) hz (z - i) N i (by omega) (by omega) (Nat.le_refl i)
  rw [e0] at h
  exact h
theorem rmA_lt {z i j : Nat} {f : Nat → Int32} (h : j < i) : rmA z f i z j = f j := if_neg (by omega)
theorem rmA_ge {z i j : Nat} {f : Nat → Int32} (h : i ≤ j) (hj : j + 1 < z) : rmA z f i z j = f (j + 1) := by
  unfold rmA
  rw [if_pos (by omega), if_pos hj]
theorem c_rm4 {N i nr : Nat} {T : RM} (hN : 24 < N) (hi : i < nr) (hnr : nr ≤ 20) (d7 : T 0 5 = nI nr) : F_X4_removeAt N T (nI i) = some (stF (u1 (u1 (u1 T 15 (rmA 20 (T 15) i 20)) 16 (rmA 20 (T 16) i 20)) 17 (rmA 20 (T 17) i 20)) 5 (nI (nr - 1))) := by
  unfold F_X4_removeAt
  rw [c_rmAt (by omega) (by omega) (by omega), Option.bind_some]
  simp only [jlet]
  rw [show u1 T 15 (rmA 20 (T 15) i 20) 16 = T 16 from rfl, c_rmAt (by omega) (by omega) (by omega), Option.bind_some, show u1 (u1 T 15 (rmA 20 (T 15) i 20)) 16 (rmA 20 (T 16) i 20) 17 = T 17 from rfl, c_rmAt (by omega) (by omega) (by omega), Option.bind_some]
  show some (stF _ 5 (T 0 5 - 1)) = _
  rw [d7, show nI nr - 1 = nI (nr - 1) from zI_sub (b := 1) (by omega)]
/-- the reference takes a request out -/
def toA (A : Nat → Int32) (q nr x : Nat) : Nat → Int32 := fun c => if 181 + 3 * q ≤ c ∧ c < 181 + x then A (c + 3) else if c = 180 then nI (nr - 1) else A c
theorem toA_step {A : Nat → Int32} {q nr x : Nat} (h : 3 * q ≤ x) : upd (toA A q nr x) (181 + x) (toA A q nr x (181 + x + 3)) = toA A q nr (x + 1) := by
  funext c
  have e : toA A q nr x (181 + x + 3) = A (181 + x + 3) := by
    unfold toA
    rw [if_neg (by omega), if_neg (by omega)]
  by_cases hc : c = 181 + x
  · rw [hc, upd_eq, e]
    exact (if_pos (show 181 + 3 * q ≤ 181 + x ∧ 181 + x < 181 + (x + 1) by omega)).symm
  · rw [upd_ne hc]
    unfold toA
    by_cases h1 : 181 + 3 * q ≤ c ∧ c < 181 + x
    · rw [if_pos h1, if_pos (by omega)]
    · rw [if_neg h1, if_neg (show ¬ (181 + 3 * q ≤ c ∧ c < 181 + (x + 1)) by omega)]
theorem r_toL {N q nr : Nat} {M : RM} (hnr1 : 1 ≤ nr) (hnr : nr ≤ 20) : ∀ (dd n x : Nat), x + dd = 3 * (nr - 1) → dd < n → 3 * q ≤ x → D_X9_takesOut_16 N n (u1 M 1 (toA (M 1) q nr x)) (nI x) = some (u1 M 1 (toA (M 1) q nr (3 * (nr - 1)))) := by
  intro dd
  have e180 : ∀ x, u1 M 1 (toA (M 1) q nr x) 1 (180 : Int32).toNatClampNeg = nI (nr - 1) := fun x => by
    rw [u1_eq]
    show toA (M 1) q nr x 180 = _
    unfold toA
    rw [if_neg (by omega), if_pos rfl]
  have e3 : (3 : Int32) * nI (nr - 1) = nI (3 * (nr - 1)) := zI_mul 3 (nr - 1)
  induction dd with
  | zero =>
    intro n x hx hn hq
    obtain ⟨n, rfl⟩ : ∃ k, n = k + 1 := ⟨n - 1, by omega⟩
    have hx : x = 3 * (nr - 1) := by omega
    rw [D_X9_takesOut_16, if_pos (by decide), e180, e3, hx, if_pos (ile_t (Nat.le_refl _) (by omega))]
  | succ dd ih =>
    intro n x hx hn hq
    obtain ⟨n, rfl⟩ : ∃ k, n = k + 1 := ⟨n - 1, by omega⟩
    have e1 : ((181 : Int32) + nI x) + (3 : Int32) = nI (181 + x + 3) := by
      rw [show (181 : Int32) + nI x = nI (181 + x) from zI_add 181 x]
      exact zI_add (181 + x) 3
    have e2 : (181 : Int32) + nI x = nI (181 + x) := zI_add 181 x
    rw [D_X9_takesOut_16, if_pos (by decide), e180, e3, if_neg (ile_f (by omega) (by omega)), e1, e2, if_pos (zI_inb (by omega) (by omega)), if_pos (zI_inb (by omega) (by omega))]
    simp only [jlet]
    rw [zI_nat (by omega), zI_succ]
    have es : stA (u1 M 1 (toA (M 1) q nr x)) 1 (nI (181 + x)) (u1 M 1 (toA (M 1) q nr x) 1 (181 + x + 3)) = u1 M 1 (toA (M 1) q nr (x + 1)) := by
      unfold stA
      rw [zI_nat (by omega), u1_eq, u1_u1, toA_step hq]
    rw [es]
    exact ih n (x + 1) (by omega) (by omega) (by omega)
theorem r_takesOut {N q nr : Nat} {M : RM} (hN : 60 < N) (hq : q < nr) (hnr : nr ≤ 20) (d8 : M 1 180 = nI nr) : F_X9_takesOut N M (nI q) = some (u1 M 1 (toA (M 1) q nr (3 * (nr - 1)))) := by
  unfold F_X9_takesOut
  rw [if_pos (by decide), if_pos (by decide), show M 1 (180 : Int32).toNatClampNeg = nI nr from d8]
  simp only [jlet]
  rw [show nI nr - (1 : Int32) = nI (nr - 1) from zI_sub (b := 1) (by omega), show (3 : Int32) * nI q = nI (3 * q) from zI_mul 3 q]
  have e : stA M 1 180 (nI (nr - 1)) = u1 M 1 (toA (M 1) q nr (3 * q)) := by
    show u1 M 1 (upd (M 1) 180 (nI (nr - 1))) = _
    congr 1
    funext c
    unfold toA
    rw [if_neg (by omega)]
    by_cases hc : c = 180
    · rw [hc, upd_eq, if_pos rfl]
    · rw [upd_ne hc, if_neg hc]
  rw [e]
  exact r_toL (by omega) hnr (3 * (nr - 1) - 3 * q) N (3 * q) (by omega) (by omega) (Nat.le_refl _)
theorem near_row {M : RM} {f : Nat → Int32} (h : ∀ k, 241 ≤ k → f k = M 1 k) : Near M (u1 M 1 f) := ⟨fun r h0 h1 => u1_ne h1, fun x _ _ _ => by rw [u1_ne (by decide)], fun k hk => by rw [u1_eq]; exact h k hk⟩
/-! the lists behind the rows -/
theorem rqT_rm {T T' : RM} {i nr : Nat} (hi : i < nr) (hnr : nr ≤ 20) (h15 : T' 15 = rmA 20 (T 15) i 20) (h16 : T' 16 = rmA 20 (T 16) i 20) (h17 : T' 17 = rmA 20 (T 17) i 20) : ∃ l2, rqT T nr = rqT T i ++ (T 15 i, T 16 i, T 17 i) :: l2 ∧ rqT T' (nr - 1) = rqT T i ++ l2 := by
  refine ⟨(List.range (nr - i - 1)).map (fun j => (T 15 (i + 1 + j), T 16 (i + 1 + j), T 17 (i + 1 + j))), ?_, ?_⟩
  · have h := map_cut (fun q => (T 15 q, T 16 q, T 17 q)) i (nr - i - 1)
    rw [show i + (nr - i - 1 + 1) = nr by omega] at h
    exact h
  · have h := map_rm (g := fun q => (T 15 q, T 16 q, T 17 q)) (g' := fun q => (T' 15 q, T' 16 q, T' 17 q)) i (nr - i - 1) (fun j hj => by
      show (T' 15 j, T' 16 j, T' 17 j) = (T 15 j, T 16 j, T 17 j)
      rw [h15, h16, h17, rmA_lt hj, rmA_lt hj, rmA_lt hj]) (fun j h1 h2 => by
      show (T' 15 j, T' 16 j, T' 17 j) = (T 15 (j + 1), T 16 (j + 1), T 17 (j + 1))
      rw [h15, h16, h17, rmA_ge h1 (by omega), rmA_ge h1 (by omega), rmA_ge h1 (by omega)])
    rw [show i + (nr - i - 1) = nr - 1 by omega] at h
    exact h
theorem rqA_rm {A A' : Nat → Int32} {q nr : Nat} (hq : q < nr) (hA : ∀ c, 181 ≤ c → c < 181 + 3 * (nr - 1) → A' c = if c < 181 + 3 * q then A c else A (c + 3)) : ∃ l2, rqA A nr = rqA A q ++ (A (181 + 3 * q), A (181 + 3 * q + 1), A (181 + 3 * q + 2)) :: l2 ∧ rqA A' (nr - 1) = rqA A q ++ l2 := by
  refine ⟨(List.range (nr - q - 1)).map (fun j => (A (181 + 3 * (q + 1 + j)), A (181 + 3 * (q + 1 + j) + 1), A (181 + 3 * (q + 1 + j) + 2))), ?_, ?_⟩
  · have h := map_cut (fun q => (A (181 + 3 * q), A (181 + 3 * q + 1), A (181 + 3 * q + 2))) q (nr - q - 1)
    rw [show q + (nr - q - 1 + 1) = nr by omega] at h
    exact h
  · have h := map_rm (g := fun q => (A (181 + 3 * q), A (181 + 3 * q + 1), A (181 + 3 * q + 2))) (g' := fun q => (A' (181 + 3 * q), A' (181 + 3 * q + 1), A' (181 + 3 * q + 2))) q (nr - q - 1) (fun j hj => by
      show (A' (181 + 3 * j), A' (181 + 3 * j + 1), A' (181 + 3 * j + 2)) = (A (181 + 3 * j), A (181 + 3 * j + 1), A (181 + 3 * j + 2))
      rw [hA (181 + 3 * j) (by omega) (by omega), hA (181 + 3 * j + 1) (by omega) (by omega), hA (181 + 3 * j + 2) (by omega) (by omega), if_pos (by omega), if_pos (by omega), if_pos (by omega)]) (fun j h1 h2 => by
      show (A' (181 + 3 * j), A' (181 + 3 * j + 1), A' (181 + 3 * j + 2)) = (A (181 + 3 * (j + 1)), A (181 + 3 * (j + 1) + 1), A (181 + 3 * (j + 1) + 2))
      rw [hA (181 + 3 * j) (by omega) (by omega), hA (181 + 3 * j + 1) (by omega) (by omega), hA (181 + 3 * j + 2) (by omega) (by omega), if_neg (by omega), if_neg (by omega), if_neg (by omega)]
      rw [show 181 + 3 * j + 3 = 181 + 3 * (j + 1) by omega, show 181 + 3 * j + 1 + 3 = 181 + 3 * (j + 1) + 1 by omega, show 181 + 3 * j + 2 + 3 = 181 + 3 * (j + 1) + 2 by omega])
    rw [show q + (nr - q - 1) = nr - 1 by omega] at h
    exact h
theorem forK_rm_ne {k k' : Nat} {a b : List Rq} {x : Rq} (hx : x.1 = nI k) (hk : k < 2 ^ 31) (hk' : k' < 2 ^ 31) (h : k' ≠ k) : forK k' (a ++ x :: b) = forK k' (a ++ b) := by
  rw [forK_app, forK_app, forK_out (by rw [hx]; exact ine (fun e => h e.symm) hk hk')]
/-- both sides lose the same request -/
theorem RReq_rm {T T' : RM} {A A' : Nat → Int32} {nf nr k i q : Nat} (hf : nf ≤ 24) (hnr : nr ≤ 20) (hk : k < nf) (hi : i < nr) (hq : q < nr) (hreq : RReq T A nf nr) (t15 : T 15 i = nI k) (a0 : A (181 + 3 * q) = nI k)
    (h15 : T' 15 = rmA 20 (T 15) i 20) (h16 : T' 16 = rmA 20 (T 16) i 20) (h17 : T' 17 = rmA 20 (T 17) i 20) (hA : ∀ c, 181 ≤ c → c < 181 + 3 * (nr - 1) → A' c = if c < 181 + 3 * q then A c else A (c + 3))
    (hcut : ∀ l2T l2A : List Rq, rqT T nr = rqT T i ++ (T 15 i, T 16 i, T 17 i) :: l2T → rqA A nr = rqA A q ++ (A (181 + 3 * q), A (181 + 3 * q + 1), A (181 + 3 * q + 2)) :: l2A → forK k (rqT T i ++ l2T) = byP (forK k (rqA A q ++ l2A))) : RReq T' A' nf (nr - 1) := by
  obtain ⟨lT, lT1, lT2⟩ := rqT_rm hi hnr h15 h16 h17
  obtain ⟨lA, lA1, lA2⟩ := rqA_rm hq hA
  refine ⟨fun k' hk' => ?_, fun j hj => ?_⟩
  · rw [lT2, lA2]
    by_cases hkk : k' = k
    · rw [hkk]; exact hcut lT lA lT1 lA1
    · have h := hreq.1 k' hk'
      rw [lT1, lA1, forK_rm_ne (k := k) (show (T 15 i, T 16 i, T 17 i).1 = nI k from t15) (by omega) (by omega) hkk, forK_rm_ne (k := k) (show (A (181 + 3 * q), A (181 + 3 * q + 1), A (181 + 3 * q + 2)).1 = nI k from a0) (by omega) (by omega) hkk] at h
      exact h
  · refine ⟨?_, ?_⟩
    · rw [h15]
      by_cases hji : j < i
      · rw [rmA_lt hji]; exact (hreq.2 j (by omega)).1
      · rw [rmA_ge (by omega) (by omega)]; exact (hreq.2 (j + 1) (by omega)).1
    · rw [hA (181 + 3 * j) (by omega) (by omega), hA (181 + 3 * j + 1) (by omega) (by omega), hA (181 + 3 * j + 2) (by omega) (by omega)]
      by_cases hjq : j < q
      · rw [if_pos (by omega), if_pos (by omega), if_pos (by omega)]; exact (hreq.2 j (by omega)).2
      · rw [if_neg (by omega), if_neg (by omega), if_neg (by omega), show 181 + 3 * j + 3 = 181 + 3 * (j + 1) by omega, show 181 + 3 * j + 1 + 3 = 181 + 3 * (j + 1) + 1 by omega, show 181 + 3 * j + 2 + 3 = 181 + 3 * (j + 1) + 2 by omega]; exact (hreq.2 (j + 1) (by omega)).2
