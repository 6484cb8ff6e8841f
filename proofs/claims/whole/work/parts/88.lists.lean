/-! the requests as lists -/
theorem map_cut {α : Type} (g : Nat → α) (i m : Nat) : (List.range (i + (m + 1))).map g = (List.range i).map g ++ g i :: (List.range m).map (fun j => g (i + 1 + j)) := by
  rw [List.range_add, List.map_append, List.range_succ_eq_map]
  congr 1
  show g (i + 0) :: _ = _
  rw [Nat.add_zero, List.map_map, List.map_map]
  congr 1
  refine List.map_congr_left (fun j _ => ?_)
  show g (i + (j + 1)) = g (i + 1 + j)
  congr 1
  omega
theorem map_rm {α : Type} {g g' : Nat → α} (i m : Nat) (h1 : ∀ j, j < i → g' j = g j) (h2 : ∀ j, i ≤ j → j < i + m → g' j = g (j + 1)) : (List.range (i + m)).map g' = (List.range i).map g ++ (List.range m).map (fun j => g (i + 1 + j)) := by
  rw [List.range_add, List.map_append, List.map_map]
  congr 1
  · exact List.map_congr_left (fun j hj => h1 j (List.mem_range.mp hj))
  · refine List.map_congr_left (fun j hj => ?_)
    have := List.mem_range.mp hj
    show g' (i + j) = g (i + 1 + j)
    rw [h2 (i + j) (by omega) (by omega)]
    congr 1
    omega
theorem map_ins {α : Type} {g g' : Nat → α} {x : α} (i m : Nat) (h1 : ∀ j, j < i → g' j = g j) (h0 : g' i = x) (h2 : ∀ j, i < j → j ≤ i + m → g' j = g (j - 1)) : (List.range (i + m + 1)).map g' = (List.range i).map g ++ x :: (List.range m).map (fun j => g (i + j)) := by
  rw [show i + m + 1 = i + (m + 1) from rfl, map_cut]
  congr 1
  · exact List.map_congr_left (fun j hj => h1 j (List.mem_range.mp hj))
  · rw [h0]
    congr 1
    refine List.map_congr_left (fun j hj => ?_)
    have := List.mem_range.mp hj
    rw [h2 (i + 1 + j) (by omega) (by omega)]
    congr 1
    omega
theorem map_all {α : Type} (g : Nat → α) (i m : Nat) : (List.range (i + m)).map g = (List.range i).map g ++ (List.range m).map (fun j => g (i + j)) := by
  rw [List.range_add, List.map_append, List.map_map]
  rfl
theorem forK_app (k : Nat) (a b : List Rq) : forK k (a ++ b) = forK k a ++ forK k b := List.filter_append _ _
theorem forK_in {k : Nat} {x : Rq} {l : List Rq} (h : x.1 = nI k) : forK k (x :: l) = x :: forK k l := List.filter_cons_of_pos (by simpa using h)
theorem forK_out {k : Nat} {x : Rq} {l : List Rq} (h : x.1 ≠ nI k) : forK k (x :: l) = forK k l := List.filter_cons_of_neg (by simpa using h)
def prF (p : Nat) (l : List Rq) : List Rq := l.filter (fun x => decide (x.2.2 = nI p))
theorem prF_app (p : Nat) (a b : List Rq) : prF p (a ++ b) = prF p a ++ prF p b := List.filter_append _ _
theorem prF_in {p : Nat} {x : Rq} {l : List Rq} (h : x.2.2 = nI p) : prF p (x :: l) = x :: prF p l := List.filter_cons_of_pos (by simpa using h)
theorem prF_out {p : Nat} {x : Rq} {l : List Rq} (h : x.2.2 ≠ nI p) : prF p (x :: l) = prF p l := List.filter_cons_of_neg (by simpa using h)
/-- by the priorities below s, the greatest first -/
def byS (l : List Rq) : Nat → List Rq
  | 0 => []
  | s + 1 => prF s l ++ byS l s
theorem byP_S (l : List Rq) : byP l = byS l 10 := by
  unfold byP
  simp only [List.flatMap_cons, List.flatMap_nil]
  rfl
theorem byS_skip {a b : List Rq} {x : Rq} : ∀ {s : Nat}, (∀ p, p < s → x.2.2 ≠ nI p) → byS (a ++ x :: b) s = byS (a ++ b) s := by
  intro s
  induction s with
  | zero => intro _; rfl
  | succ s ih =>
    intro h
    rw [byS, byS, ih (fun p hp => h p (by omega)), prF_app, prF_app, prF_out (h s (Nat.lt_succ_self s))]
/-- one taken out, of those by priority -/
theorem byS_cut {a b : List Rq} {x : Rq} {p : Nat} (hx : x.2.2 = nI p) (hp : p < 2 ^ 31) : ∀ {s : Nat}, p < s → s < 2 ^ 31 → ∃ B1 B2, byS (a ++ x :: b) s = B1 ++ x :: B2 ∧ byS (a ++ b) s = B1 ++ B2 ∧ B1.length + (byS (a ++ x :: b) (p + 1)).length = (byS (a ++ x :: b) s).length + (prF p a).length := by
  intro s
  induction s with
  | zero => intro h; omega
  | succ s ih =>
    intro h hs
    by_cases hps : p = s
    · subst hps
      refine ⟨prF p a, prF p b ++ byS (a ++ b) p, ?_, ?_, ?_⟩
      · rw [byS, byS_skip (fun q hq => by rw [hx]; exact ine (by omega) (by omega) (by omega)), prF_app, prF_in hx, List.append_assoc, List.cons_append]
      · rw [byS, prF_app, List.append_assoc]
      · omega
    · obtain ⟨B1, B2, h1, h2, h3⟩ := ih (by omega) (by omega)
      have hne : x.2.2 ≠ nI s := by rw [hx]; exact ine hps (by omega) (by omega)
      refine ⟨prF s (a ++ b) ++ B1, B2, ?_, ?_, ?_⟩
      · rw [byS, h1, prF_app, prF_out hne, ← prF_app, List.append_assoc]
      · rw [byS, h2, List.append_assoc]
      · have e : byS (a ++ x :: b) (s + 1) = prF s (a ++ x :: b) ++ byS (a ++ x :: b) s := rfl
        rw [e, List.length_append, List.length_append, prF_app s a (x :: b), prF_out hne, ← prF_app]
        omega
/-- where all priorities are below s, nothing is lost -/
theorem byS_len {l : List Rq} {s : Nat} (hs : s < 2 ^ 31) (h : ∀ x, x ∈ l → ∃ p, p < s ∧ x.2.2 = nI p) : (byS l s).length = l.length := by
  induction l with
  | nil =>
    clear h
    induction s with
    | zero => rfl
    | succ s ih =>
      show (prF s [] ++ byS [] s).length = 0
      rw [List.length_append, ih (by omega)]
      rfl
  | cons x l ih =>
    obtain ⟨p, hp, hx⟩ := h x (List.mem_cons_self)
    obtain ⟨B1, B2, h1, h2, -⟩ := byS_cut (a := []) (b := l) hx (by omega) hp hs
    have h1 : byS (x :: l) s = B1 ++ x :: B2 := h1
    have h2 : byS l s = B1 ++ B2 := h2
    rw [h1, List.length_append, List.length_cons, List.length_cons, ← ih (fun y hy => h y (List.mem_cons_of_mem x hy)), h2, List.length_append]
    omega
theorem byP_len {l : List Rq} (h : ∀ x, x ∈ l → ∃ p, p ≤ 9 ∧ x.2.2 = nI p) : (byP l).length = l.length := by
  rw [byP_S]
  exact byS_len (by omega) (fun x hx => by
    obtain ⟨p, h1, h2⟩ := h x hx
    exact ⟨p, by omega, h2⟩)
theorem byS_mem {l : List Rq} : ∀ {s : Nat} {x : Rq}, x ∈ byS l s → ∃ p, p < s ∧ x.2.2 = nI p ∧ x ∈ l := by
  intro s
  induction s with
  | zero => intro x hx; cases hx
  | succ s ih =>
    intro x hx
    rcases List.mem_append.mp hx with h | h
    · obtain ⟨h1, h2⟩ := List.mem_filter.mp h
      exact ⟨s, Nat.lt_succ_self s, by simpa using h2, h1⟩
    · obtain ⟨p, h1, h2, h3⟩ := ih h
      exact ⟨p, by omega, h2, h3⟩
theorem rqT_succ (T : RM) (n : Nat) : rqT T (n + 1) = rqT T n ++ [(T 15 n, T 16 n, T 17 n)] := by
  unfold rqT
  rw [List.range_succ, List.map_append]
  rfl
theorem rqA_succ (A : Nat → Int32) (n : Nat) : rqA A (n + 1) = rqA A n ++ [(A (181 + 3 * n), A (181 + 3 * n + 1), A (181 + 3 * n + 2))] := by
  unfold rqA
  rw [List.range_succ, List.map_append]
  rfl
