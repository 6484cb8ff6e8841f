/-! the relation's parts look at few cells -/
theorem RTop_c {T T' : RM} {A A' : Nat → Int32} (h0 : T' 0 0 = T 0 0) (h1 : T' 0 1 = T 0 1) (h2 : T' 1 = T 1) (hA : ∀ k, k < 5 → A' k = A k) (h : RTop T A) : RTop T' A' := by
  obtain ⟨a, b, c, d, f⟩ := h
  refine ⟨by rw [h0, hA 3 (by omega)]; exact a, by rw [h1, hA 4 (by omega)]; exact b, by rw [hA 3 (by omega)]; exact c, by rw [hA 4 (by omega)]; exact d, fun s hs => ?_⟩
  rw [h2, hA s (by omega)]
  exact f s hs
theorem RPro_c {T T' : RM} {A A' : Nat → Int32} {np nf : Nat} (hp : np ≤ 8) (hf : nf ≤ 24) (h2 : T' 2 = T 2) (h3 : T' 3 = T 3) (h4 : T' 4 = T 4) (h5 : T' 5 = T 5) (h6 : T' 6 = T 6) (hA : ∀ k, 6 ≤ k → k < 38 → A' k = A k) (hB : ∀ k, 39 ≤ k → k < 135 → A' k = A k) (h : RPro T A np nf) : RPro T' A' np nf := by
  intro p hpp
  obtain ⟨⟨a1, a2, a3, a4⟩, ⟨b1, b2, b3, b4⟩, m, c1, c2, c3⟩ := h p hpp
  rw [h2, h3, h4, h5, h6, hA (6 + 4 * p + 0) (by omega) (by omega), hA (6 + 4 * p + 1) (by omega) (by omega), hA (6 + 4 * p + 2) (by omega) (by omega), hA (6 + 4 * p + 3) (by omega) (by omega)]
  refine ⟨⟨a1, a2, a3, a4⟩, ⟨b1, b2, b3, b4⟩, m, c1, c2, fun d hd => (c3 d hd).trans ⟨?_, ?_⟩⟩
  · rintro ⟨k, k1, k2, k3⟩
    exact ⟨k, k1, by rw [hB _ (by omega) (by omega)]; exact k2, by rw [hB _ (by omega) (by omega)]; exact k3⟩
  · rintro ⟨k, k1, k2, k3⟩
    rw [hB _ (by omega) (by omega)] at k2 k3
    exact ⟨k, k1, k2, k3⟩
theorem RPer_c {T T' : RM} {A A' : Nat → Int32} {np nf nu nu' : Nat} (hf : nf ≤ 24) (hu : nu ≤ nu') (h7 : T' 7 = T 7) (h8 : T' 8 = T 8) (h9 : T' 9 = T 9) (h10 : T' 10 = T 10) (h11 : T' 11 = T 11) (h12 : T' 12 = T 12) (hS : ∀ k, k < 3 → A' k = A k) (hB : ∀ k, 39 ≤ k → k < 159 → A' k = A k) (hH : ∀ k, k < nf → heldS A' k nu' = heldS A k nu) (h : RPer T A np nf nu) : RPer T' A' np nf nu' := by
  intro k hk
  obtain ⟨⟨a1, a2, a3, a4, a5, a6⟩, b1, b2, ⟨b, b3, b4⟩, s, w, hh, z, c1, c2, c3, c4, c5, c6⟩ := h k hk
  rw [h7, h8, h9, h10, h11, h12, hB (39 + 4 * k + 0) (by omega) (by omega), hB (39 + 4 * k + 1) (by omega) (by omega), hB (39 + 4 * k + 2) (by omega) (by omega), hB (39 + 4 * k + 3) (by omega) (by omega), hB (135 + k) (by omega) (by omega), hH k hk]
  exact ⟨⟨a1, a2, a3, a4, a5, a6⟩, b1, b2, ⟨b, b3, Nat.lt_of_lt_of_le b4 (Nat.pow_le_pow_right (by decide) hu)⟩, s, w, hh, z, c1, c2, c3, c4, by rw [hS s c1]; exact c5, c6⟩
theorem RApt_c {A A' : Nat → Int32} {nf : Nat} (hf : nf ≤ 24) (hB : ∀ k, 39 ≤ k → k < 135 → A' k = A k) (h : RApt A nf) : RApt A' nf := by
  intro i j hi hj hij
  rw [hB (39 + 4 * i + 2) (by omega) (by omega), hB (39 + 4 * j + 2) (by omega) (by omega), hB (39 + 4 * i + 1) (by omega) (by omega), hB (39 + 4 * j + 1) (by omega) (by omega), hB (39 + 4 * i + 0) (by omega) (by omega), hB (39 + 4 * j + 0) (by omega) (by omega)]
  exact h i j hi hj hij
theorem RSub_c {T T' : RM} {A A' : Nat → Int32} {nu : Nat} (h13 : ∀ u, u < nu → T' 13 u = T 13 u) (h14 : ∀ u, u < nu → T' 14 u = T 14 u) (hA : ∀ u, u < nu → A' (160 + 2 * u + 0) = A (160 + 2 * u + 0) ∧ A' (160 + 2 * u + 1) = A (160 + 2 * u + 1)) (h : RSub T A nu) : RSub T' A' nu := by
  intro u hu
  rw [h13 u hu, h14 u hu, (hA u hu).1, (hA u hu).2]
  exact h u hu
theorem rqA_c {A A' : Nat → Int32} {nr : Nat} (hr : nr ≤ 20) (hA : ∀ k, 181 ≤ k → k < 241 → A' k = A k) : rqA A' nr = rqA A nr := by
  unfold rqA
  refine List.map_congr_left (fun q hq => ?_)
  have := List.mem_range.mp hq
  rw [hA _ (by omega) (by omega), hA _ (by omega) (by omega), hA _ (by omega) (by omega)]
theorem RReq_c {T T' : RM} {A A' : Nat → Int32} {nf nr : Nat} (hr : nr ≤ 20) (h15 : T' 15 = T 15) (h16 : T' 16 = T 16) (h17 : T' 17 = T 17) (hA : ∀ k, 181 ≤ k → k < 241 → A' k = A k) (h : RReq T A nf nr) : RReq T' A' nf nr := by
  have e : rqT T' nr = rqT T nr := by unfold rqT; rw [h15, h16, h17]
  refine ⟨fun k hk => by rw [e, rqA_c hr hA]; exact h.1 k hk, fun q hq => ?_⟩
  rw [h15, hA _ (by omega) (by omega), hA _ (by omega) (by omega), hA _ (by omega) (by omega)]
  exact h.2 q hq
theorem heldS_c {A A' : Nat → Int32} {k nu : Nat} (h1 : A' (135 + k) = A (135 + k)) (h2 : ∀ u, u < nu → A' (160 + 2 * u) = A (160 + 2 * u)) : heldS A' k nu = heldS A k nu := by
  unfold heldS
  exact sumI_congr (fun u hu => by rw [h1, h2 u hu])
