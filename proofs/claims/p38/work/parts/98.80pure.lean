/-! the law's answer, from the script alone -/
theorem pure_all (L : Nat) (xs : Nat → Int32) : ∃ (N nf : Nat) (S1 S2 S3 Sf : CS) (v2 v3 v4 : Int32), F_Y8_account N mT0 10 = some 40 ∧ F_Y8_account N mT0 11 = some 60 ∧ F_Y8_account N mT0 12 = some 80 ∧ F_Y8_account N mT0 7 = some 6 ∧ F_Y8_account N mT0 8 = some 20 ∧ F_X8_peak N mT0 = some 0 ∧
    bdA N L xs (2 + smV L xs 0 3) 0 mT0 = some S1 ∧ bdB N L xs (2 + smV L xs 0 3) 10 0 S1 = some S2 ∧ F_Y8_account N S2 1 = some (nI nf) ∧ nf < 1000 ∧ bdC N L xs 4 0 S2 = some S3 ∧
    ((nf = 0 ∧ S3 = Sf) ∨ (0 < nf ∧ ∃ S4 S5, bdD N L xs nf 6 0 S3 = some S4 ∧ bdE N L xs nf 6 0 S4 = some S5 ∧ bdF N L xs nf 5 0 S5 = some Sf)) ∧
    F_Y8_account N Sf 0 = some v2 ∧ F_Y8_account N Sf 1 = some v3 ∧ F_Y8_account N Sf 2 = some v4 ∧ F_L_law N Sf (fun _ _ => 0) v2 v3 v4 = some 1 := by
  obtain ⟨np, nf, nr, S1, S2, S3, Sf, h1, h2, h3, h4, h5, h6, I⟩ := built (N := 40) (L := L) (by decide) xs
  have I0 : Inv (mT0 0) 0 0 0 0 := inv_0
  exact ⟨40, nf, S1, S2, S3, Sf, nI np, nI nf, nI 4, y_a10 (s := 0) I0 (by decide), y_a10 (s := 1) I0 (by decide), y_a10 (s := 2) I0 (by decide), y_a7 I0, y_a8 I0, y_peak (by decide) I0, h1, h2, h3, h4, h5, h6, y_a0 I, y_a1 I, y_a2 I, l_law (by decide) (by decide) I⟩
