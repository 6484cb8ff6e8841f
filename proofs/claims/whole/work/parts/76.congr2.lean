/-! the same, where seats are sold: the other cells of the performances stay -/
theorem RPro_c2 {T T' : RM} {A A' : Nat → Int32} {np nf : Nat} (hp : np ≤ 8) (h2 : T' 2 = T 2) (h3 : T' 3 = T 3) (h4 : T' 4 = T 4) (h5 : T' 5 = T 5) (h6 : T' 6 = T 6) (hA : ∀ k, 6 ≤ k → k < 38 → A' k = A k) (hB : ∀ k, k < nf → A' (39 + 4 * k + 0) = A (39 + 4 * k + 0) ∧ A' (39 + 4 * k + 2) = A (39 + 4 * k + 2)) (h : RPro T A np nf) : RPro T' A' np nf := by
  intro p hpp
  obtain ⟨⟨a1, a2, a3, a4⟩, ⟨b1, b2, b3, b4⟩, m, c1, c2, c3⟩ := h p hpp
  rw [h2, h3, h4, h5, h6, hA (6 + 4 * p + 0) (by omega) (by omega), hA (6 + 4 * p + 1) (by omega) (by omega), hA (6 + 4 * p + 2) (by omega) (by omega), hA (6 + 4 * p + 3) (by omega) (by omega)]
  refine ⟨⟨a1, a2, a3, a4⟩, ⟨b1, b2, b3, b4⟩, m, c1, c2, fun d hd => (c3 d hd).trans ⟨?_, ?_⟩⟩
  · rintro ⟨k, k1, k2, k3⟩
    exact ⟨k, k1, by rw [(hB k k1).1]; exact k2, by rw [(hB k k1).2]; exact k3⟩
  · rintro ⟨k, k1, k2, k3⟩
    rw [(hB k k1).1] at k2
    rw [(hB k k1).2] at k3
    exact ⟨k, k1, k2, k3⟩
theorem RApt_c2 {A A' : Nat → Int32} {nf : Nat} (hB : ∀ k, k < nf → A' (39 + 4 * k + 0) = A (39 + 4 * k + 0) ∧ A' (39 + 4 * k + 1) = A (39 + 4 * k + 1) ∧ A' (39 + 4 * k + 2) = A (39 + 4 * k + 2)) (h : RApt A nf) : RApt A' nf := by
  intro i j hi hj hij
  rw [(hB i hi).1, (hB i hi).2.1, (hB i hi).2.2, (hB j hj).1, (hB j hj).2.1, (hB j hj).2.2]
  exact h i j hi hj hij
