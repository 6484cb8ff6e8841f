/-- what is wanted of the seasons for setSeats -/
def jO_setSeats (RS : RM → (Nat → Int32) → Prop) : Prop := ∀ (T M : RM), RS T (blk M 0) → ∀ v1 v2 : Int32, ∃ rc rm, F_X6_changeSeats 3000 T v1 v2 = some rc ∧ F_X9_setsSeats 3000 M v1 v2 = some rm ∧ OpR RS [0, 1, 2, 4] T M rc rm
theorem jc_setSeats {RS : RM → (Nat → Int32) → Prop} (hL : Loc RS) (H : jO_setSeats RS) : jE_setSeats (Rel RS) := by
  intro S M v1 v2 h
  obtain ⟨rc, rm, e1, e2, hK, hc, hR⟩ := z_change hL (K := [0, 1, 2, 4]) (N := 3000) (by decide) (f := fun T => F_X6_changeSeats 3000 T v1 v2) (g := fun M => F_X9_setsSeats 3000 M v1 v2) (fun T M hr => H T M hr v1 v2) 2 0 3 h
  refine ⟨3000, rc, 3000, rm, e1, e2, by simpa using hK, ?_, ?_, hR⟩
  · rcases hc with q | q | q | q | q
    · rw [q.2.1, q.1]; rfl
    · rw [q.2, q.1]; rfl
    · rw [q.2, q.1]; rfl
    · rw [q.1] at hK; exact absurd hK (by decide)
    · rw [q.2, q.1]; rfl
  · intro h0
    rcases hc with q | q | q | q | q
    · exact q.2.2
    · rw [q.1] at h0; exact absurd h0 (by decide)
    · rw [q.1] at h0; exact absurd h0 (by decide)
    · rw [q.1] at h0; exact absurd h0 (by decide)
    · rw [q.1] at h0; exact absurd h0 (by decide)
/-- what is wanted of the seasons for setStaff -/
def jO_setStaff (RS : RM → (Nat → Int32) → Prop) : Prop := ∀ (T M : RM), RS T (blk M 0) → ∀ v1 : Int32, ∃ rc rm, F_X6_changeStaff 3000 T v1 = some rc ∧ F_X9_sets 3000 M 3 v1 1 20 = some rm ∧ OpR RS [0, 2, 4] T M rc rm
theorem jc_setStaff {RS : RM → (Nat → Int32) → Prop} (hL : Loc RS) (H : jO_setStaff RS) : jE_setStaff (Rel RS) := by
  intro S M v1 h
  obtain ⟨rc, rm, e1, e2, hK, hc, hR⟩ := z_change hL (K := [0, 2, 4]) (N := 3000) (by decide) (f := fun T => F_X6_changeStaff 3000 T v1) (g := fun M => F_X9_sets 3000 M 3 v1 1 20) (fun T M hr => H T M hr v1) 1 0 2 h
  refine ⟨3000, rc, 3000, rm, e1, e2, by simpa using hK, ?_, ?_, hR⟩
  · rcases hc with q | q | q | q | q
    · rw [q.2.1, q.1]; rfl
    · rw [q.1] at hK; exact absurd hK (by decide)
    · rw [q.2, q.1]; rfl
    · rw [q.1] at hK; exact absurd hK (by decide)
    · rw [q.2, q.1]; rfl
  · intro h0
    rcases hc with q | q | q | q | q
    · exact q.2.2
    · rw [q.1] at h0; exact absurd h0 (by decide)
    · rw [q.1] at h0; exact absurd h0 (by decide)
    · rw [q.1] at h0; exact absurd h0 (by decide)
    · rw [q.1] at h0; exact absurd h0 (by decide)
/-- what is wanted of the seasons for setRoom -/
def jO_setRoom (RS : RM → (Nat → Int32) → Prop) : Prop := ∀ (T M : RM), RS T (blk M 0) → ∀ v1 : Int32, ∃ rc rm, F_X6_changeRoom 3000 T v1 = some rc ∧ F_X9_sets 3000 M 4 v1 0 99 = some rm ∧ OpR RS [0, 2, 4] T M rc rm
theorem jc_setRoom {RS : RM → (Nat → Int32) → Prop} (hL : Loc RS) (H : jO_setRoom RS) : jE_setRoom (Rel RS) := by
  intro S M v1 h
  obtain ⟨rc, rm, e1, e2, hK, hc, hR⟩ := z_change hL (K := [0, 2, 4]) (N := 3000) (by decide) (f := fun T => F_X6_changeRoom 3000 T v1) (g := fun M => F_X9_sets 3000 M 4 v1 0 99) (fun T M hr => H T M hr v1) 1 0 2 h
  refine ⟨3000, rc, 3000, rm, e1, e2, by simpa using hK, ?_, ?_, hR⟩
  · rcases hc with q | q | q | q | q
    · rw [q.2.1, q.1]; rfl
    · rw [q.1] at hK; exact absurd hK (by decide)
    · rw [q.2, q.1]; rfl
    · rw [q.1] at hK; exact absurd hK (by decide)
    · rw [q.2, q.1]; rfl
  · intro h0
    rcases hc with q | q | q | q | q
    · exact q.2.2
    · rw [q.1] at h0; exact absurd h0 (by decide)
    · rw [q.1] at h0; exact absurd h0 (by decide)
    · rw [q.1] at h0; exact absurd h0 (by decide)
    · rw [q.1] at h0; exact absurd h0 (by decide)
/-- what is wanted of the seasons for addProduction -/
def jO_addProduction (RS : RM → (Nat → Int32) → Prop) : Prop := ∀ (T M : RM), RS T (blk M 0) → ∀ v1 v2 v3 v4 : Int32, ∃ rc rm, F_X6_makeProduction 3000 T v1 v2 v3 v4 = some rc ∧ F_X9_addsProduction 3000 M v1 v2 v3 v4 = some rm ∧ OpR RS [0, 2, 3] T M rc rm
theorem jc_addProduction {RS : RM → (Nat → Int32) → Prop} (hL : Loc RS) (H : jO_addProduction RS) : jE_addProduction (Rel RS) := by
  intro S M v1 v2 v3 v4 h
  obtain ⟨rc, rm, e1, e2, hK, hc, hR⟩ := z_change hL (K := [0, 2, 3]) (N := 3000) (by decide) (f := fun T => F_X6_makeProduction 3000 T v1 v2 v3 v4) (g := fun M => F_X9_addsProduction 3000 M v1 v2 v3 v4) (fun T M hr => H T M hr v1 v2 v3 v4) 1 2 0 h
  refine ⟨3000, rc, 3000, rm, e1, e2, by simpa using hK, ?_, ?_, hR⟩
  · rcases hc with q | q | q | q | q
    · rw [q.2.1, q.1]; rfl
    · rw [q.1] at hK; exact absurd hK (by decide)
    · rw [q.2, q.1]; rfl
    · rw [q.2, q.1]; rfl
    · rw [q.1] at hK; exact absurd hK (by decide)
  · intro h0
    rcases hc with q | q | q | q | q
    · exact q.2.2
    · rw [q.1] at h0; exact absurd h0 (by decide)
    · rw [q.1] at h0; exact absurd h0 (by decide)
    · rw [q.1] at h0; exact absurd h0 (by decide)
    · rw [q.1] at h0; exact absurd h0 (by decide)
/-- what is wanted of the seasons for perform -/
def jO_perform (RS : RM → (Nat → Int32) → Prop) : Prop := ∀ (T M : RM), RS T (blk M 0) → ∀ v1 v2 v3 : Int32, ∃ rc rm, F_X6_makePerformance 3000 T v1 v2 v3 = some rc ∧ F_X9_performs 3000 M v1 v2 v3 = some rm ∧ OpR RS [0, 1, 2, 3, 4] T M rc rm
theorem jc_perform {RS : RM → (Nat → Int32) → Prop} (hL : Loc RS) (H : jO_perform RS) : jE_perform (Rel RS) := by
  intro S M v1 v2 v3 h
  obtain ⟨rc, rm, e1, e2, hK, hc, hR⟩ := z_change hL (K := [0, 1, 2, 3, 4]) (N := 3000) (by decide) (f := fun T => F_X6_makePerformance 3000 T v1 v2 v3) (g := fun M => F_X9_performs 3000 M v1 v2 v3) (fun T M hr => H T M hr v1 v2 v3) 2 3 4 h
  refine ⟨3000, rc, 3000, rm, e1, e2, by simpa using hK, ?_, ?_, hR⟩
  · rcases hc with q | q | q | q | q
    · rw [q.2.1, q.1]; rfl
    · rw [q.2, q.1]; rfl
    · rw [q.2, q.1]; rfl
    · rw [q.2, q.1]; rfl
    · rw [q.2, q.1]; rfl
  · intro h0
    rcases hc with q | q | q | q | q
    · exact q.2.2
    · rw [q.1] at h0; exact absurd h0 (by decide)
    · rw [q.1] at h0; exact absurd h0 (by decide)
    · rw [q.1] at h0; exact absurd h0 (by decide)
    · rw [q.1] at h0; exact absurd h0 (by decide)
/-- what is wanted of the seasons for cancel -/
def jO_cancel (RS : RM → (Nat → Int32) → Prop) : Prop := ∀ (T M : RM), RS T (blk M 0) → ∀ v1 : Int32, ∃ rc rm, F_X6_dropPerformance 3000 T v1 = some rc ∧ F_X9_cancels 3000 M v1 = some rm ∧ OpR RS [0, 1, 4] T M rc rm
theorem jc_cancel {RS : RM → (Nat → Int32) → Prop} (hL : Loc RS) (H : jO_cancel RS) : jE_cancel (Rel RS) := by
  intro S M v1 h
  obtain ⟨rc, rm, e1, e2, hK, hc, hR⟩ := z_change hL (K := [0, 1, 4]) (N := 3000) (by decide) (f := fun T => F_X6_dropPerformance 3000 T v1) (g := fun M => F_X9_cancels 3000 M v1) (fun T M hr => H T M hr v1) 0 0 2 h
  refine ⟨3000, rc, 3000, rm, e1, e2, by simpa using hK, ?_, ?_, hR⟩
  · rcases hc with q | q | q | q | q
    · rw [q.2.1, q.1]; rfl
    · rw [q.2, q.1]; rfl
    · rw [q.1] at hK; exact absurd hK (by decide)
    · rw [q.1] at hK; exact absurd hK (by decide)
    · rw [q.2, q.1]; rfl
  · intro h0
    rcases hc with q | q | q | q | q
    · exact q.2.2
    · rw [q.1] at h0; exact absurd h0 (by decide)
    · rw [q.1] at h0; exact absurd h0 (by decide)
    · rw [q.1] at h0; exact absurd h0 (by decide)
    · rw [q.1] at h0; exact absurd h0 (by decide)
/-- what is wanted of the seasons for move -/
def jO_move (RS : RM → (Nat → Int32) → Prop) : Prop := ∀ (T M : RM), RS T (blk M 0) → ∀ v1 v2 : Int32, ∃ rc rm, F_X6_movePerformance 3000 T v1 v2 = some rc ∧ F_X9_moves 3000 M v1 v2 = some rm ∧ OpR RS [0, 1, 2, 4] T M rc rm
theorem jc_move {RS : RM → (Nat → Int32) → Prop} (hL : Loc RS) (H : jO_move RS) : jE_move (Rel RS) := by
  intro S M v1 v2 h
  obtain ⟨rc, rm, e1, e2, hK, hc, hR⟩ := z_change hL (K := [0, 1, 2, 4]) (N := 3000) (by decide) (f := fun T => F_X6_movePerformance 3000 T v1 v2) (g := fun M => F_X9_moves 3000 M v1 v2) (fun T M hr => H T M hr v1 v2) 2 0 3 h
  refine ⟨3000, rc, 3000, rm, e1, e2, by simpa using hK, ?_, ?_, hR⟩
  · rcases hc with q | q | q | q | q
    · rw [q.2.1, q.1]; rfl
    · rw [q.2, q.1]; rfl
    · rw [q.2, q.1]; rfl
    · rw [q.1] at hK; exact absurd hK (by decide)
    · rw [q.2, q.1]; rfl
  · intro h0
    rcases hc with q | q | q | q | q
    · exact q.2.2
    · rw [q.1] at h0; exact absurd h0 (by decide)
    · rw [q.1] at h0; exact absurd h0 (by decide)
    · rw [q.1] at h0; exact absurd h0 (by decide)
    · rw [q.1] at h0; exact absurd h0 (by decide)
/-- what is wanted of the seasons for sell -/
def jO_sell (RS : RM → (Nat → Int32) → Prop) : Prop := ∀ (T M : RM), RS T (blk M 0) → ∀ v1 v2 : Int32, ∃ rc rm, F_X6_sellSeats 3000 T v1 v2 = some rc ∧ F_X9_sells 3000 M v1 v2 = some rm ∧ OpR RS [0, 1, 2, 4] T M rc rm
theorem jc_sell {RS : RM → (Nat → Int32) → Prop} (hL : Loc RS) (H : jO_sell RS) : jE_sell (Rel RS) := by
  intro S M v1 v2 h
  obtain ⟨rc, rm, e1, e2, hK, hc, hR⟩ := z_change hL (K := [0, 1, 2, 4]) (N := 3000) (by decide) (f := fun T => F_X6_sellSeats 3000 T v1 v2) (g := fun M => F_X9_sells 3000 M v1 v2) (fun T M hr => H T M hr v1 v2) 2 0 3 h
  refine ⟨3000, rc, 3000, rm, e1, e2, by simpa using hK, ?_, ?_, hR⟩
  · rcases hc with q | q | q | q | q
    · rw [q.2.1, q.1]; rfl
    · rw [q.2, q.1]; rfl
    · rw [q.2, q.1]; rfl
    · rw [q.1] at hK; exact absurd hK (by decide)
    · rw [q.2, q.1]; rfl
  · intro h0
    rcases hc with q | q | q | q | q
    · exact q.2.2
    · rw [q.1] at h0; exact absurd h0 (by decide)
    · rw [q.1] at h0; exact absurd h0 (by decide)
    · rw [q.1] at h0; exact absurd h0 (by decide)
    · rw [q.1] at h0; exact absurd h0 (by decide)
/-- what is wanted of the seasons for refund -/
def jO_refund (RS : RM → (Nat → Int32) → Prop) : Prop := ∀ (T M : RM), RS T (blk M 0) → ∀ v1 v2 : Int32, ∃ rc rm, F_X6_refundSeats 3000 T v1 v2 = some rc ∧ F_X9_refunds 3000 M v1 v2 = some rm ∧ OpR RS [0, 1, 2, 4] T M rc rm
theorem jc_refund {RS : RM → (Nat → Int32) → Prop} (hL : Loc RS) (H : jO_refund RS) : jE_refund (Rel RS) := by
  intro S M v1 v2 h
  obtain ⟨rc, rm, e1, e2, hK, hc, hR⟩ := z_change hL (K := [0, 1, 2, 4]) (N := 3000) (by decide) (f := fun T => F_X6_refundSeats 3000 T v1 v2) (g := fun M => F_X9_refunds 3000 M v1 v2) (fun T M hr => H T M hr v1 v2) 2 0 3 h
  refine ⟨3000, rc, 3000, rm, e1, e2, by simpa using hK, ?_, ?_, hR⟩
  · rcases hc with q | q | q | q | q
    · rw [q.2.1, q.1]; rfl
    · rw [q.2, q.1]; rfl
    · rw [q.2, q.1]; rfl
    · rw [q.1] at hK; exact absurd hK (by decide)
    · rw [q.2, q.1]; rfl
  · intro h0
    rcases hc with q | q | q | q | q
    · exact q.2.2
    · rw [q.1] at h0; exact absurd h0 (by decide)
    · rw [q.1] at h0; exact absurd h0 (by decide)
    · rw [q.1] at h0; exact absurd h0 (by decide)
    · rw [q.1] at h0; exact absurd h0 (by decide)
/-- what is wanted of the seasons for request -/
def jO_request (RS : RM → (Nat → Int32) → Prop) : Prop := ∀ (T M : RM), RS T (blk M 0) → ∀ v1 v2 v3 : Int32, ∃ rc rm, F_X6_makeRequest 3000 T v1 v2 v3 = some rc ∧ F_X9_requests 3000 M v1 v2 v3 = some rm ∧ OpR RS [0, 1, 2, 4] T M rc rm
theorem jc_request {RS : RM → (Nat → Int32) → Prop} (hL : Loc RS) (H : jO_request RS) : jE_request (Rel RS) := by
  intro S M v1 v2 v3 h
  obtain ⟨rc, rm, e1, e2, hK, hc, hR⟩ := z_change hL (K := [0, 1, 2, 4]) (N := 3000) (by decide) (f := fun T => F_X6_makeRequest 3000 T v1 v2 v3) (g := fun M => F_X9_requests 3000 M v1 v2 v3) (fun T M hr => H T M hr v1 v2 v3) 2 0 3 h
  refine ⟨3000, rc, 3000, rm, e1, e2, by simpa using hK, ?_, ?_, hR⟩
  · rcases hc with q | q | q | q | q
    · rw [q.2.1, q.1]; rfl
    · rw [q.2, q.1]; rfl
    · rw [q.2, q.1]; rfl
    · rw [q.1] at hK; exact absurd hK (by decide)
    · rw [q.2, q.1]; rfl
  · intro h0
    rcases hc with q | q | q | q | q
    · exact q.2.2
    · rw [q.1] at h0; exact absurd h0 (by decide)
    · rw [q.1] at h0; exact absurd h0 (by decide)
    · rw [q.1] at h0; exact absurd h0 (by decide)
    · rw [q.1] at h0; exact absurd h0 (by decide)
/-- what is wanted of the seasons for subscribe -/
def jO_subscribe (RS : RM → (Nat → Int32) → Prop) : Prop := ∀ (T M : RM), RS T (blk M 0) → ∀ v1 : Int32, ∃ rc rm, F_X6_makeSubscription 3000 T v1 = some rc ∧ F_X9_subscribes 3000 M v1 = some rm ∧ OpR RS [0, 2, 3] T M rc rm
theorem jc_subscribe {RS : RM → (Nat → Int32) → Prop} (hL : Loc RS) (H : jO_subscribe RS) : jE_subscribe (Rel RS) := by
  intro S M v1 h
  obtain ⟨rc, rm, e1, e2, hK, hc, hR⟩ := z_change hL (K := [0, 2, 3]) (N := 3000) (by decide) (f := fun T => F_X6_makeSubscription 3000 T v1) (g := fun M => F_X9_subscribes 3000 M v1) (fun T M hr => H T M hr v1) 1 2 0 h
  refine ⟨3000, rc, 3000, rm, e1, e2, by simpa using hK, ?_, ?_, hR⟩
  · rcases hc with q | q | q | q | q
    · rw [q.2.1, q.1]; rfl
    · rw [q.1] at hK; exact absurd hK (by decide)
    · rw [q.2, q.1]; rfl
    · rw [q.2, q.1]; rfl
    · rw [q.1] at hK; exact absurd hK (by decide)
  · intro h0
    rcases hc with q | q | q | q | q
    · exact q.2.2
    · rw [q.1] at h0; exact absurd h0 (by decide)
    · rw [q.1] at h0; exact absurd h0 (by decide)
    · rw [q.1] at h0; exact absurd h0 (by decide)
    · rw [q.1] at h0; exact absurd h0 (by decide)
/-- what is wanted of the seasons for hold -/
def jO_hold (RS : RM → (Nat → Int32) → Prop) : Prop := ∀ (T M : RM), RS T (blk M 0) → ∀ v1 v2 : Int32, ∃ rc rm, F_X6_holdSeats 3000 T v1 v2 = some rc ∧ F_X9_takes 3000 M v1 v2 = some rm ∧ OpR RS [0, 1, 4] T M rc rm
theorem jc_hold {RS : RM → (Nat → Int32) → Prop} (hL : Loc RS) (H : jO_hold RS) : jE_hold (Rel RS) := by
  intro S M v1 v2 h
  obtain ⟨rc, rm, e1, e2, hK, hc, hR⟩ := z_change hL (K := [0, 1, 4]) (N := 3000) (by decide) (f := fun T => F_X6_holdSeats 3000 T v1 v2) (g := fun M => F_X9_takes 3000 M v1 v2) (fun T M hr => H T M hr v1 v2) 0 0 2 h
  refine ⟨3000, rc, 3000, rm, e1, e2, by simpa using hK, ?_, ?_, hR⟩
  · rcases hc with q | q | q | q | q
    · rw [q.2.1, q.1]; rfl
    · rw [q.2, q.1]; rfl
    · rw [q.1] at hK; exact absurd hK (by decide)
    · rw [q.1] at hK; exact absurd hK (by decide)
    · rw [q.2, q.1]; rfl
  · intro h0
    rcases hc with q | q | q | q | q
    · exact q.2.2
    · rw [q.1] at h0; exact absurd h0 (by decide)
    · rw [q.1] at h0; exact absurd h0 (by decide)
    · rw [q.1] at h0; exact absurd h0 (by decide)
    · rw [q.1] at h0; exact absurd h0 (by decide)
/-- what is wanted of the seasons for release -/
def jO_release (RS : RM → (Nat → Int32) → Prop) : Prop := ∀ (T M : RM), RS T (blk M 0) → ∀ v1 v2 : Int32, ∃ rc rm, F_X6_releaseSeats 3000 T v1 v2 = some rc ∧ F_X9_releases 3000 M v1 v2 = some rm ∧ OpR RS [0, 1, 4] T M rc rm
theorem jc_release {RS : RM → (Nat → Int32) → Prop} (hL : Loc RS) (H : jO_release RS) : jE_release (Rel RS) := by
  intro S M v1 v2 h
  obtain ⟨rc, rm, e1, e2, hK, hc, hR⟩ := z_change hL (K := [0, 1, 4]) (N := 3000) (by decide) (f := fun T => F_X6_releaseSeats 3000 T v1 v2) (g := fun M => F_X9_releases 3000 M v1 v2) (fun T M hr => H T M hr v1 v2) 0 0 2 h
  refine ⟨3000, rc, 3000, rm, e1, e2, by simpa using hK, ?_, ?_, hR⟩
  · rcases hc with q | q | q | q | q
    · rw [q.2.1, q.1]; rfl
    · rw [q.2, q.1]; rfl
    · rw [q.1] at hK; exact absurd hK (by decide)
    · rw [q.1] at hK; exact absurd hK (by decide)
    · rw [q.2, q.1]; rfl
  · intro h0
    rcases hc with q | q | q | q | q
    · exact q.2.2
    · rw [q.1] at h0; exact absurd h0 (by decide)
    · rw [q.1] at h0; exact absurd h0 (by decide)
    · rw [q.1] at h0; exact absurd h0 (by decide)
    · rw [q.1] at h0; exact absurd h0 (by decide)
/-- what is wanted of the seasons for exchange -/
def jO_exchange (RS : RM → (Nat → Int32) → Prop) : Prop := ∀ (T M : RM), RS T (blk M 0) → ∀ v1 v2 v3 : Int32, ∃ rc rm, F_X6_exchangeSeats 3000 T v1 v2 v3 = some rc ∧ F_X9_exchanges 3000 M v1 v2 v3 = some rm ∧ OpR RS [0, 1, 4] T M rc rm
theorem jc_exchange {RS : RM → (Nat → Int32) → Prop} (hL : Loc RS) (H : jO_exchange RS) : jE_exchange (Rel RS) := by
  intro S M v1 v2 v3 h
  obtain ⟨rc, rm, e1, e2, hK, hc, hR⟩ := z_change hL (K := [0, 1, 4]) (N := 3000) (by decide) (f := fun T => F_X6_exchangeSeats 3000 T v1 v2 v3) (g := fun M => F_X9_exchanges 3000 M v1 v2 v3) (fun T M hr => H T M hr v1 v2 v3) 0 0 2 h
  refine ⟨3000, rc, 3000, rm, e1, e2, by simpa using hK, ?_, ?_, hR⟩
  · rcases hc with q | q | q | q | q
    · rw [q.2.1, q.1]; rfl
    · rw [q.2, q.1]; rfl
    · rw [q.1] at hK; exact absurd hK (by decide)
    · rw [q.1] at hK; exact absurd hK (by decide)
    · rw [q.2, q.1]; rfl
  · intro h0
    rcases hc with q | q | q | q | q
    · exact q.2.2
    · rw [q.1] at h0; exact absurd h0 (by decide)
    · rw [q.1] at h0; exact absurd h0 (by decide)
    · rw [q.1] at h0; exact absurd h0 (by decide)
    · rw [q.1] at h0; exact absurd h0 (by decide)
