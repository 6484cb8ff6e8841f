/-! the season that the law's build makes -/
theorem b_A {N L : Nat} {xs : Nat → Int32} {nf nu nr : Nat} : ∀ (n k np : Nat) (S : CS), Inv (S 0) np nf nu nr → np + n ≤ 8 → ∃ S', bdA N L xs n k S = some S' ∧ Inv (S' 0) (np + n) nf nu nr := by
  intro n
  induction n with
  | zero => intro k np S I h; exact ⟨S, rfl, I⟩
  | succ n ih =>
    intro k np S I h
    have h1 := sm_lt (L := L) (xs := xs) (k := 1 + k) (n := 9) (by decide)
    have h2 := sm_lt (L := L) (xs := xs) (k := 6 + k) (n := 4) (by decide)
    have h3 := sm_lt (L := L) (xs := xs) (k := 11 + k) (n := 50) (by decide)
    have h4 := sm_lt (L := L) (xs := xs) (k := 16 + k) (n := 101) (by decide)
    obtain ⟨T', e1, e2⟩ := m_addP (N := N) (a := 1 + smV L xs (1 + k) 9) (b := 1 + smV L xs (6 + k) 4) (c := 1 + smV L xs (11 + k) 50) (d := smV L xs (16 + k) 101) I (by omega) (by omega) (by omega) (by omega) (by omega)
    obtain ⟨r, r1, r2⟩ := yw_ok (N := N) (S := S) (v := np) (f := fun T => F_X6_makeProduction N T (nI (1 + smV L xs (1 + k) 9)) (nI (1 + smV L xs (6 + k) 4)) (nI (1 + smV L xs (11 + k) 50)) (nI (smV L xs (16 + k) 101))) (by omega) e1
    obtain ⟨S', s1, s2⟩ := ih (k + 1) (np + 1) r.2 (by rw [r2]; exact e2) (by omega)
    refine ⟨S', ?_, by rw [show np + (n + 1) = np + 1 + n by omega]; exact s2⟩
    rw [bdA, y_addP, r1, Option.bind_some]
    exact s1
theorem b_B {N L : Nat} (hN : 30 < N) {xs : Nat → Int32} {np nu nr : Nat} (hnp : 0 < np) : ∀ (n k nf : Nat) (S : CS), Inv (S 0) np nf nu nr → nf + n ≤ 24 → ∃ S' nf', bdB N L xs np n k S = some S' ∧ Inv (S' 0) np nf' nu nr ∧ nf' ≤ nf + n := by
  intro n
  induction n with
  | zero => intro k nf S I h; exact ⟨S, nf, rfl, I, Nat.le_refl _⟩
  | succ n ih =>
    intro k nf S I h
    have h1 := sm_lt (L := L) (xs := xs) (k := 21 + k) (n := np) hnp
    have h2 := sm_lt (L := L) (xs := xs) (k := 32 + k) (n := 3) (by decide)
    have h3 := sm_lt (L := L) (xs := xs) (k := 43 + k) (n := 12) (by decide)
    obtain ⟨r, r1, r2, r3⟩ := mres_cw (N := N) (S := S) (f := fun T => F_X6_makePerformance N T (nI (smV L xs (21 + k) np)) (nI (smV L xs (32 + k) 3)) (nI (smV L xs (43 + k) 12))) (m_perf hN I (by omega) h1 h2 (by omega))
    have key : ∃ nf1, Inv (r.2.2 0) np nf1 nu nr ∧ nf1 ≤ nf + 1 := by
      rcases r3 with r3 | r3
      · exact ⟨nf, r3, by omega⟩
      · exact ⟨nf + 1, r3, by omega⟩
    obtain ⟨nf1, k1, k2⟩ := key
    obtain ⟨S', nf', s1, s2, s3⟩ := ih (k + 1) nf1 r.2.2 k1 (by omega)
    refine ⟨S', nf', ?_, s2, by omega⟩
    rw [bdB, x_perf, r1, Option.bind_some, if_pos r2]
    exact s1
theorem b_C {N L : Nat} {xs : Nat → Int32} {np nf nr : Nat} : ∀ (n k nu : Nat) (S : CS), Inv (S 0) np nf nu nr → nu + n ≤ 10 → ∃ S', bdC N L xs n k S = some S' ∧ Inv (S' 0) np nf (nu + n) nr := by
  intro n
  induction n with
  | zero => intro k nu S I h; exact ⟨S, rfl, I⟩
  | succ n ih =>
    intro k nu S I h
    have h1 := sm_lt (L := L) (xs := xs) (k := 54 + k) (n := 6) (by decide)
    obtain ⟨T', e1, e2⟩ := m_subs (N := N) (a := 1 + smV L xs (54 + k) 6) I (by omega) (by omega)
    obtain ⟨r, r1, r2⟩ := yw_ok (N := N) (S := S) (v := nu) (f := fun T => F_X6_makeSubscription N T (nI (1 + smV L xs (54 + k) 6))) (by omega) e1
    obtain ⟨S', s1, s2⟩ := ih (k + 1) (nu + 1) r.2 (by rw [r2]; exact e2) (by omega)
    refine ⟨S', ?_, by rw [show nu + (n + 1) = nu + 1 + n by omega]; exact s2⟩
    rw [bdC, y_subs, r1, Option.bind_some]
    exact s1
theorem b_D {N L : Nat} (hN : 30 < N) {xs : Nat → Int32} {np nf nr : Nat} (hnf : 0 < nf) : ∀ (n k : Nat) (S : CS), Inv (S 0) np nf 4 nr → ∃ S', bdD N L xs nf n k S = some S' ∧ Inv (S' 0) np nf 4 nr := by
  intro n
  induction n with
  | zero => intro k S I; exact ⟨S, rfl, I⟩
  | succ n ih =>
    intro k S I
    have h1 := sm_lt (L := L) (xs := xs) (k := 59 + k) (n := 4) (by decide)
    have h2 := sm_lt (L := L) (xs := xs) (k := 66 + k) (n := nf) hnf
    obtain ⟨r, r1, r2, r3⟩ := mres_cw (N := N) (S := S) (f := fun T => F_X6_holdSeats N T (nI (smV L xs (59 + k) 4)) (nI (smV L xs (66 + k) nf))) (m_hold (by omega) I h1 h2)
    obtain ⟨S', s1, s2⟩ := ih (k + 1) r.2.2 r3
    refine ⟨S', ?_, s2⟩
    rw [bdD, x_hold, r1, Option.bind_some, if_pos r2]
    exact s1
theorem b_E {N L : Nat} {xs : Nat → Int32} {np nf nu nr : Nat} (hnf : 0 < nf) : ∀ (n k : Nat) (S : CS), Inv (S 0) np nf nu nr → ∃ S', bdE N L xs nf n k S = some S' ∧ Inv (S' 0) np nf nu nr := by
  intro n
  induction n with
  | zero => intro k S I; exact ⟨S, rfl, I⟩
  | succ n ih =>
    intro k S I
    have h1 := sm_lt (L := L) (xs := xs) (k := 73 + k) (n := nf) hnf
    have h2 := sm_lt (L := L) (xs := xs) (k := 80 + k) (n := 60) (by decide)
    obtain ⟨r, r1, r2, r3⟩ := mres_cw (N := N) (S := S) (f := fun T => F_X6_sellSeats N T (nI (smV L xs (73 + k) nf)) (nI (1 + smV L xs (80 + k) 60))) (m_sell I h1 (by omega))
    obtain ⟨S', s1, s2⟩ := ih (k + 1) r.2.2 r3
    refine ⟨S', ?_, s2⟩
    rw [bdE, x_sell, r1, Option.bind_some, if_pos r2]
    exact s1
theorem b_F {N L : Nat} (hN : 30 < N) {xs : Nat → Int32} {np nf nu : Nat} (hnf : 0 < nf) : ∀ (n k nr : Nat) (S : CS), Inv (S 0) np nf nu nr → nr + n ≤ 20 → ∃ S' nr', bdF N L xs nf n k S = some S' ∧ Inv (S' 0) np nf nu nr' := by
  intro n
  induction n with
  | zero => intro k nr S I _; exact ⟨S, nr, rfl, I⟩
  | succ n ih =>
    intro k nr S I h
    have h1 := sm_lt (L := L) (xs := xs) (k := 87 + k) (n := nf) hnf
    have h2 := sm_lt (L := L) (xs := xs) (k := 93 + k) (n := 30) (by decide)
    have h3 := sm_lt (L := L) (xs := xs) (k := 99 + k) (n := 4) (by decide)
    obtain ⟨r, r1, r2, r3⟩ := mres_cw (N := N) (S := S) (f := fun T => F_X6_makeRequest N T (nI (smV L xs (87 + k) nf)) (nI (1 + smV L xs (93 + k) 30)) (nI (smV L xs (99 + k) 4))) (m_requ (by omega) I (by omega) h1 (by omega) (by omega))
    obtain ⟨S', nr', s1, s2⟩ := ih (k + 1) (nr + 1) r.2.2 r3 (by omega)
    refine ⟨S', nr', ?_, s2⟩
    rw [bdF, x_requ, r1, Option.bind_some, if_pos r2]
    exact s1
theorem built {N L : Nat} (hN : 30 < N) (xs : Nat → Int32) : ∃ (np nf nr : Nat) (S1 S2 S3 Sf : CS), bdA N L xs (2 + smV L xs 0 3) 0 mT0 = some S1 ∧ bdB N L xs (2 + smV L xs 0 3) 10 0 S1 = some S2 ∧ F_Y8_account N S2 1 = some (nI nf) ∧ nf < 1000 ∧ bdC N L xs 4 0 S2 = some S3 ∧
    ((nf = 0 ∧ S3 = Sf) ∨ (0 < nf ∧ ∃ S4 S5, bdD N L xs nf 6 0 S3 = some S4 ∧ bdE N L xs nf 6 0 S4 = some S5 ∧ bdF N L xs nf 5 0 S5 = some Sf)) ∧ Inv (Sf 0) np nf 4 nr := by
  have h0 := sm_lt (L := L) (xs := xs) (k := 0) (n := 3) (by decide)
  obtain ⟨S1, a1, a2⟩ := b_A (N := N) (L := L) (xs := xs) (2 + smV L xs 0 3) 0 0 mT0 inv_0 (by omega)
  rw [Nat.zero_add] at a2
  obtain ⟨S2, nf, b1, b2, b3⟩ := b_B (N := N) (L := L) hN (xs := xs) (show 0 < 2 + smV L xs 0 3 by omega) 10 0 0 S1 a2 (by decide)
  obtain ⟨S3, c1, c2⟩ := b_C (N := N) (L := L) (xs := xs) 4 0 0 S2 b2 (by decide)
  rw [Nat.zero_add] at c2
  have hacc : F_Y8_account N S2 1 = some (nI nf) := by
    unfold F_Y8_account
    rw [if_neg (show ¬ (1 : Int32) = 0 by decide), if_pos rfl, b2.2.1.2.2.2.1]
  by_cases hz : nf = 0
  · exact ⟨_, nf, 0, S1, S2, S3, S3, a1, b1, hacc, by omega, c1, Or.inl ⟨hz, rfl⟩, c2⟩
  · have hp : 0 < nf := by omega
    obtain ⟨S4, d1, d2⟩ := b_D (N := N) (L := L) hN (xs := xs) hp 6 0 S3 c2
    obtain ⟨S5, e1, e2⟩ := b_E (N := N) (L := L) (xs := xs) hp 6 0 S4 d2
    obtain ⟨Sf, nr, f1, f2⟩ := b_F (N := N) (L := L) hN (xs := xs) hp 5 0 0 S5 e2 (by decide)
    exact ⟨_, nf, nr, S1, S2, S3, Sf, a1, b1, hacc, by omega, c1, Or.inr ⟨hp, S4, S5, d1, e1, f1⟩, f2⟩
