/-! the free seats of a performance, on both sides -/
theorem z_free {N : Nat} (hN : 10 < N) {T M : RM} {np nf nu nr k : Nat} (hc : RCnt T (tr (blk M 0)) np nf nu nr) (htop : RTop T (tr (blk M 0))) (hper : RPer T (tr (blk M 0)) np nf nu) (hk : k < nf) :
    ∃ s w h z : Nat, s < 3 ∧ z ≤ 99 ∧ w + h ≤ z ∧ T 8 k = nI s ∧ T 10 k = nI w ∧ T 11 k = nI h ∧ T 1 s = nI z ∧ M 1 (39 + 4 * k + 3) = nI w ∧ M 1 (39 + 4 * k + 1) = nI s ∧ F_X9_heldAt N M (nI k) = some (nI h) ∧ F_X9_freeAt N M (nI k) = some (nI (z - (w + h))) ∧ F_X2_taken N T (nI k) = some (nI (w + h)) ∧ F_X6_seatsAt N T (nI k) 2 = some (nI (z - (w + h))) := by
  obtain ⟨c1, c2, c3, c4, d1, d2, d3, d4, d5, d6, d7, d8⟩ := hc
  obtain ⟨⟨a1, a2, a3, a4, a5, a6⟩, -, -, -, s, w, h, z, e1, e2, e3, e4, e5, e6, e7⟩ := hper k hk
  obtain ⟨t1, -⟩ := htop.2.2.2.2 s e1
  have hu : M 1 159 = nI nu := (tr_M (by decide)).trans d6
  have m1 : M 1 (39 + 4 * k + 1) = nI s := (tr_M (by omega)).trans e2
  have m3 : M 1 (39 + 4 * k + 3) = nI w := (tr_M (by omega)).trans e3
  have ms : M 1 s = nI z := (tr_M (by omega)).trans e5
  have hh : heldS (M 1) k nu = nI h := by
    rw [← e4]
    exact heldS_c (tr_M (by omega)) (fun u hu => tr_M (by omega))
  have hheld : F_X9_heldAt N M (nI k) = some (nI h) := by rw [z_heldAt rfl hu c3 (by omega) (by omega), hh]
  have q10 : T 10 k = nI w := a4.trans e3
  have q11 : T 11 k = nI h := a5.trans e4
  have q8 : T 8 k = nI s := a2.trans e2
  have htk : F_X2_taken N T (nI k) = some (nI (w + h)) := by
    unfold F_X2_taken
    rw [zI_rg (by omega) (by omega), zI_rg (by omega) (by omega), q10, q11, zI_add]
  refine ⟨s, w, h, z, e1, e6, e7, q8, q10, q11, t1.trans e5, m3, m1, hheld, ?_, htk, ?_⟩
  · unfold F_X9_freeAt
    rw [z_p (v2 := 1) k 1 rfl rfl (by omega) (by omega), Option.bind_some, m1, show (0 : Int32) + nI s = nI s from Int32.zero_add _, if_pos (zI_inb (by omega) (by omega)), z_p (v2 := 3) k 3 rfl rfl (by omega) (by omega), Option.bind_some, hheld, Option.bind_some, m3, zI_nat (by omega), ms, zI_sub (by omega), zI_sub (by omega)]
    rw [Nat.sub_sub]
  · unfold F_X6_seatsAt
    rw [if_neg (by decide), if_neg (by decide), htk, Option.bind_some, zI_rg (by omega) (by omega), q8, zI_rg (by omega) (by omega), t1, e5, zI_sub e7]
