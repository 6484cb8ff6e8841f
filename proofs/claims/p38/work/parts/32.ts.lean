/-! the whole class: S 0 the season, S 1 the saved one, S 2 .. S 8 those of the history by their places in the heap, S 9 the rest; S 9 9 0 tells how far the history's row is turned -/
def kof (S : Nat → Nat → Nat → Int32) : Nat := (S 9 9 0).toNatClampNeg % 7
abbrev wHd (B : Nat → Nat → Nat) (G : Nat → ClassId) (S : Nat → Nat → Nat → Int32) : va_W := [(B 9 0, .inr (10, [.ref (B 0 0), .ref (B 1 0), .ref (B 9 1), .ref (B 9 3), .int (S 9 0 0), .int (S 9 0 1), .int (S 9 0 2), .int (S 9 0 3)])), (B 9 1, .inr (2, [.ref (B 9 2), .int (S 9 0 4)])), (B 9 2, .inl (G 2, 7, .inr (.inr (.inr (.inr (fun i => some (B (2 + (i + kof S) % 7) 0)))))))]
abbrev wAll (B : Nat → Nat → Nat) (G : Nat → ClassId) (S : Nat → Nat → Nat → Int32) : va_W := ([0, 1, 2, 3, 4, 5, 6, 7, 8] : List Nat).flatMap (fun j => wSeas (B j) G (S j))
abbrev wTS (B : Nat → Nat → Nat) (G : Nat → ClassId) (S : Nat → Nat → Nat → Int32) : va_W := wHd B G S ++ (wInp (B 9) G (S 9) ++ wAll B G S)
def stT (S : Nat → Nat → Nat → Int32) (k : Nat) (v : Int32) : Nat → Nat → Nat → Int32 := u1 S 9 (stF (S 9) k v)
/-- the input's rows out of z -/
def mgX1 (M z : Nat → Nat → Int32) : Nat → Nat → Int32 := fun x => cond (Nat.beq x 0) (fun y => cond (Nat.ble 5 y && Nat.ble y 7) (z 0 y) (M 0 y)) (cond (Nat.ble 1 x && Nat.ble x 2) (z x) (M x))
section TSW
variable {D : va_G} {A : Nat → Prop} {B : Nat → Nat → Nat} {G : Nat → ClassId} {S : Nat → Nat → Nat → Int32} {H H1 : Heap}
theorem dSeas (a : Nat → Nat) (G : Nat → ClassId) (M M' : Nat → Nat → Int32) : (wSeas a G M).map Prod.fst = (wSeas a G M').map Prod.fst := rfl
theorem dHdI (S S' : Nat → Nat → Nat → Int32) : (wHd B G S ++ wInp (B 9) G (S 9)).map Prod.fst = (wHd B G S' ++ wInp (B 9) G (S' 9)).map Prod.fst := rfl
theorem dTS (S S' : Nat → Nat → Nat → Int32) : (wTS B G S).map Prod.fst = (wTS B G S').map Prod.fst := by
  have h : (fun j => (wSeas (B j) G (S j)).map Prod.fst) = (fun j => (wSeas (B j) G (S' j)).map Prod.fst) := funext fun j => dSeas _ _ _ _
  have e1 : ∀ T : Nat → Nat → Nat → Int32, (wTS B G T).map Prod.fst = (wHd B G T ++ wInp (B 9) G (T 9)).map Prod.fst ++ (([0, 1, 2, 3, 4, 5, 6, 7, 8] : List Nat).flatMap (fun j => (wSeas (B j) G (T j)).map Prod.fst)) := by
    intro T
    show ((wHd B G T ++ (wInp (B 9) G (T 9) ++ wAll B G T))).map Prod.fst = _
    rw [← List.append_assoc, List.map_append, List.map_flatMap]
  rw [e1, e1, h, dHdI S S']
theorem u1_ne {α : Type} {M : Nat → α} {r x : Nat} {f : α} (h : x ≠ r) : u1 M r f x = M x := by
  unfold u1
  have : Nat.beq x r = false := by
    cases hb : Nat.beq x r
    · rfl
    · exact absurd (Nat.eq_of_beq_eq_true hb) h
  rw [this]; rfl
theorem u1_eq {α : Type} {M : Nat → α} {r : Nat} {f : α} : u1 M r f r = f := by
  unfold u1
  rw [Nat.beq_refl]; rfl
theorem sTS_I (h : va_P D vwCl (wTS B G S) H) : va_P D vwCl (wInp (B 9) G (S 9)) H := jMidP (pre := wHd B G S) (post := wAll B G S) h
theorem dTS_I (h : va_D A (wTS B G S)) : va_D A (wInp (B 9) G (S 9)) := jMidD (pre := wHd B G S) (post := wAll B G S) h
theorem jTS_I {z : Nat → Nat → Int32} (hP : va_P D vwCl (wTS B G S) H) (hD : va_D A (wTS B G S)) (hk : ∀ q : Nat, q < H.size → ¬ va_A (wInp (B 9) G (S 9)) H.size q → H1[q]? = H[q]?) (h1 : va_P D vwCl (wInp (B 9) G z) H1) : va_P D vwCl (wTS B G (u1 S 9 (mgX1 (S 9) z))) H1 :=
  jMidJoin (pre := wHd B G S) (mid := wInp (B 9) G (S 9)) (mid' := wInp (B 9) G z) (post := wAll B G S) hP hD hk h1
theorem sTS_0 (h : va_P D vwCl (wTS B G S) H) : va_P D vwCl (wSeas (B 0) G (S 0)) H := jMidP (pre := wHd B G S ++ wInp (B 9) G (S 9)) (post := ([1, 2, 3, 4, 5, 6, 7, 8] : List Nat).flatMap (fun j => wSeas (B j) G (S j))) h
theorem dTS_0 (h : va_D A (wTS B G S)) : va_D A (wSeas (B 0) G (S 0)) := jMidD (pre := wHd B G S ++ wInp (B 9) G (S 9)) (post := ([1, 2, 3, 4, 5, 6, 7, 8] : List Nat).flatMap (fun j => wSeas (B j) G (S j))) h
theorem jTS_0 {z : Nat → Nat → Int32} (hP : va_P D vwCl (wTS B G S) H) (hD : va_D A (wTS B G S)) (hk : ∀ q : Nat, q < H.size → ¬ va_A (wSeas (B 0) G (S 0)) H.size q → H1[q]? = H[q]?) (h1 : va_P D vwCl (wSeas (B 0) G z) H1) : va_P D vwCl (wTS B G (u1 S 0 z)) H1 :=
  jMidJoin (pre := wHd B G S ++ wInp (B 9) G (S 9)) (mid := wSeas (B 0) G (S 0)) (mid' := wSeas (B 0) G z) (post := ([1, 2, 3, 4, 5, 6, 7, 8] : List Nat).flatMap (fun j => wSeas (B j) G (S j))) hP hD hk h1
theorem wAll_mem {q : Nat × va_E} : q ∈ wAll B G S ↔ ∃ j, j < 9 ∧ q ∈ wSeas (B j) G (S j) := by
  unfold wAll
  rw [List.mem_flatMap]
  constructor
  · rintro ⟨j, hj, h⟩
    refine ⟨j, ?_, h⟩
    simp only [List.mem_cons, List.not_mem_nil, or_false] at hj
    omega
  · rintro ⟨j, hj, h⟩
    refine ⟨j, ?_, h⟩
    simp only [List.mem_cons, List.not_mem_nil, or_false]
    omega
/-- two seasons lie apart; and from the rest -/
theorem wAll_apart (hD : va_D A (wTS B G S)) {i j : Nat} (hi : i < 9) (hj : j < 9) (hij : i ≠ j) {p q : Nat × va_E} (hp : p ∈ wSeas (B i) G (S i)) (hq : q ∈ wSeas (B j) G (S j)) : p.1 ≠ q.1 := by
  have hn := (jDnd.mp hD).1
  rw [List.map_append, List.map_append] at hn
  have h2 := (List.nodup_append.mp (List.nodup_append.mp hn).2.1).2.1
  rw [List.map_flatMap] at h2
  have h3 := (List.pairwise_flatMap.mp h2).2
  have h4 := List.pairwise_iff_getElem.mp h3
  have e : ∀ k (hk : k < 9), ([0, 1, 2, 3, 4, 5, 6, 7, 8] : List Nat)[k]'(by simpa using hk) = k := by decide
  rcases Nat.lt_or_gt_of_ne hij with h | h
  · have h5 := h4 i j (by simpa using hi) (by simpa using hj) h
    rw [e i hi, e j hj] at h5
    exact h5 _ (List.mem_map.mpr ⟨p, hp, rfl⟩) _ (List.mem_map.mpr ⟨q, hq, rfl⟩)
  · have h5 := h4 j i (by simpa using hj) (by simpa using hi) h
    rw [e i hi, e j hj] at h5
    exact Ne.symm (h5 _ (List.mem_map.mpr ⟨q, hq, rfl⟩) _ (List.mem_map.mpr ⟨p, hp, rfl⟩))
theorem wHd_apart (hD : va_D A (wTS B G S)) {i : Nat} (hi : i < 9) {p q : Nat × va_E} (hp : p ∈ wHd B G S ++ wInp (B 9) G (S 9)) (hq : q ∈ wSeas (B i) G (S i)) : p.1 ≠ q.1 := by
  have hn := (jDnd.mp hD).1
  rw [List.map_append, List.map_append, ← List.append_assoc, ← List.map_append] at hn
  exact (List.nodup_append.mp hn).2.2 _ (List.mem_map.mpr ⟨p, hp, rfl⟩) _ (List.mem_map.mpr ⟨q, wAll_mem.mpr ⟨i, hi, hq⟩, rfl⟩)
theorem wTS_mem {q : Nat × va_E} : q ∈ wTS B G S ↔ q ∈ wHd B G S ++ wInp (B 9) G (S 9) ∨ ∃ j, j < 9 ∧ q ∈ wSeas (B j) G (S j) := by
  rw [← wAll_mem]
  simp only [wTS, List.mem_append, or_assoc]
theorem s2TS {i j : Nat} (hi : i < 9) (hj : j < 9) (h : va_P D vwCl (wTS B G S) H) : va_P D vwCl (wSeas (B i) G (S i) ++ wSeas (B j) G (S j)) H := by
  refine jSubP ?_ h
  intro q hq
  rcases List.mem_append.mp hq with h | h
  · exact wTS_mem.mpr (Or.inr ⟨i, hi, h⟩)
  · exact wTS_mem.mpr (Or.inr ⟨j, hj, h⟩)
theorem d1TS {i : Nat} (hi : i < 9) (h : va_D A (wTS B G S)) : ((wSeas (B i) G (S i)).map Prod.fst).Nodup := by
  have hn := (jDnd.mp h).1
  rw [List.map_append, List.map_append] at hn
  have h2 := (List.nodup_append.mp (List.nodup_append.mp hn).2.1).2.1
  rw [List.map_flatMap] at h2
  refine (List.pairwise_flatMap.mp h2).1 i ?_
  simp only [List.mem_cons, List.not_mem_nil, or_false]
  omega
theorem d2TS {i j : Nat} (hi : i < 9) (hj : j < 9) (hij : i ≠ j) (h : va_D A (wTS B G S)) : va_D A (wSeas (B i) G (S i) ++ wSeas (B j) G (S j)) := by
  refine jDnd.mpr ⟨?_, ?_⟩
  · rw [List.map_append]
    refine List.nodup_append.mpr ⟨d1TS hi h, d1TS hj h, ?_⟩
    intro a ha b hb
    obtain ⟨p, hp, rfl⟩ := List.mem_map.mp ha
    obtain ⟨q, hq, rfl⟩ := List.mem_map.mp hb
    exact wAll_apart h hi hj hij hp hq
  · intro q hq
    rcases List.mem_append.mp hq with h1 | h1
    · exact (jDnd.mp h).2 q (wTS_mem.mpr (Or.inr ⟨i, hi, h1⟩))
    · exact (jDnd.mp h).2 q (wTS_mem.mpr (Or.inr ⟨j, hj, h1⟩))
theorem j2TS {i j : Nat} (hi : i < 9) (hj : j < 9) (hij : i ≠ j) (hP : va_P D vwCl (wTS B G S) H) (hD : va_D A (wTS B G S)) (hk : ∀ q : Nat, q < H.size → ¬ va_A (wSeas (B i) G (S i) ++ wSeas (B j) G (S j)) H.size q → H1[q]? = H[q]?)
    (h1 : va_P D vwCl (wSeas (B i) G (S j) ++ wSeas (B j) G (S j)) H1) : va_P D vwCl (wTS B G (u1 S i (S j))) H1 := by
  refine jJoinM hP hD (wc := wSeas (B i) G (S i) ++ wSeas (B j) G (S j)) ?_ hk h1 ?_
  · intro q hq
    rcases List.mem_append.mp hq with h | h
    · exact wTS_mem.mpr (Or.inr ⟨i, hi, h⟩)
    · exact wTS_mem.mpr (Or.inr ⟨j, hj, h⟩)
  · intro q hq
    have e9 : u1 S i (S j) 9 = S 9 := u1_ne (by omega)
    have eh : wHd B G (u1 S i (S j)) ++ wInp (B 9) G (u1 S i (S j) 9) = wHd B G S ++ wInp (B 9) G (S 9) := by
      unfold wHd kof
      rw [e9]
    rcases wTS_mem.mp hq with h | ⟨n, hn, h⟩
    · rw [eh] at h
      refine Or.inr ⟨wTS_mem.mpr (Or.inl h), ?_⟩
      intro hm
      obtain ⟨p, hp, e⟩ := List.mem_map.mp hm
      rcases List.mem_append.mp hp with h2 | h2
      · exact wHd_apart hD hi h h2 e.symm
      · exact wHd_apart hD hj h h2 e.symm
    · by_cases hni : n = i
      · subst hni
        rw [u1_eq] at h
        exact Or.inl (List.mem_append_left _ h)
      · rw [u1_ne hni] at h
        by_cases hnj : n = j
        · subst hnj
          exact Or.inl (List.mem_append_right _ h)
        · refine Or.inr ⟨wTS_mem.mpr (Or.inr ⟨n, hn, h⟩), ?_⟩
          intro hm
          obtain ⟨p, hp, e⟩ := List.mem_map.mp hm
          rcases List.mem_append.mp hp with h2 | h2
          · exact wAll_apart hD hn hi hni h h2 e.symm
          · exact wAll_apart hD hn hj hnj h h2 e.symm
/-- what the reader of the history does to the places -/
def ph (S : Nat → Nat → Nat → Int32) (i : Nat) : Nat := 2 + (i + kof S) % 7
theorem ph_lt (S : Nat → Nat → Nat → Int32) (i : Nat) : 2 ≤ ph S i ∧ ph S i < 9 := by
  unfold ph
  omega
end TSW
