set_option maxHeartbeats 4000000 in
set_option maxRecDepth 100000 in
theorem jt_aio : ∀ w ∈ u_ws RJx00060 TJx00060 6, w ∈ lw_tbl := by decide +kernel
set_option maxHeartbeats 4000000 in
set_option maxRecDepth 100000 in
theorem jn_tbl : ∀ w ∈ jnw, w ∈ lw_tbl := by decide +kernel
def jiw : List Cond := [Cond.instantiable RJ0 4, Cond.instantiable RJx00060 6, Cond.instantiable RX0 2, Cond.instantiable RX1 5, Cond.instantiable RX2 7, Cond.instantiable RX3 6, Cond.instantiable RX4 4, Cond.instantiable RX5 1, Cond.instantiable RX6 7, Cond.instantiable RX7 3, Cond.instantiable RX8 8, Cond.instantiable RX9 16, Cond.arrayClass .int, Cond.arrayClass .char, Cond.arrayClass .long, Cond.arrayClass .double, Cond.arrayOver (.object "TheatreSeasons$Season")]
set_option maxHeartbeats 4000000 in
set_option maxRecDepth 100000 in
theorem ji_tbl : ∀ w ∈ jiw, w ∈ lw_tbl := by decide +kernel
theorem jAcls {s : State} {args : Array Value} {ty : FieldType} (hp : (match ty with | .object _ => False | _ => True)) (h : (Cond.arrayClass ty).before args s = true) : ∃ cA : ClassId, ArrOfT s cA ty ∧ va_RA s cA ty := by
  obtain ⟨cA, kA, comp, hfind, hk, hkind⟩ := Cond.arrayClass_spec h
  refine ⟨cA, fun n z => ⟨fun k h => ?_, kA, hk, comp, hkind⟩, ?_⟩
  · cases h
  · cases ty <;> first | exact hfind | exact hp.elim
theorem jArrO {s : State} {args : Array Value} {o : String} (h : (Cond.arrayOver (.object o)).before args s = true) : ∃ cA : ClassId, ArrOfT s cA (.object o) ∧ va_RA s cA (.object o) := by
  obtain ⟨comp, c, k, h1, h2, h3, h4, h5⟩ := Cond.arrayOver_spec h
  exact ⟨c, fun n z => ⟨fun k h => (by cases h), k, h3, comp, h4⟩, k, comp, h3, h4, h1, h5⟩
set_option maxHeartbeats 4000000 in
set_option maxRecDepth 100000 in
theorem law_K {s : State} {args : Array Value} (hts : ∀ w ∈ lw_tbl, w.before args s = true) : ∃ (D : va_G) (G : Nat → ClassId), jK D G s := by
  have hi : ∀ w ∈ jiw, w.before args s = true := fun w h => hts w (ji_tbl w h)
  obtain ⟨c0, i0, k0⟩ := u_known (C := RJ0) (T := TJ0) (N := 2) (n := 4) hts (fun _ h => jw_tbl _ (ju_J0 _ h)) (hi _ (List.mem_of_getElem? (i := 0) rfl))
  obtain ⟨c1, i1, k1⟩ := u_known (C := RJx00060) (T := TJx00060) (N := 6) (n := 6) hts (fun _ h => jt_aio _ h) (hi _ (List.mem_of_getElem? (i := 1) rfl))
  obtain ⟨c2, i2, k2⟩ := u_known (C := RX0) (T := TX0) (N := 2) (n := 2) hts (fun _ h => jw_tbl _ (ju_X0 _ h)) (hi _ (List.mem_of_getElem? (i := 2) rfl))
  obtain ⟨c3, i3, k3⟩ := u_known (C := RX1) (T := TX1) (N := 5) (n := 5) hts (fun _ h => jw_tbl _ (ju_X1 _ h)) (hi _ (List.mem_of_getElem? (i := 3) rfl))
  obtain ⟨c4, i4, k4⟩ := u_known (C := RX2) (T := TX2) (N := 7) (n := 7) hts (fun _ h => jw_tbl _ (ju_X2 _ h)) (hi _ (List.mem_of_getElem? (i := 4) rfl))
  obtain ⟨c5, i5, k5⟩ := u_known (C := RX3) (T := TX3) (N := 6) (n := 6) hts (fun _ h => jw_tbl _ (ju_X3 _ h)) (hi _ (List.mem_of_getElem? (i := 5) rfl))
  obtain ⟨c6, i6, k6⟩ := u_known (C := RX4) (T := TX4) (N := 4) (n := 4) hts (fun _ h => jw_tbl _ (ju_X4 _ h)) (hi _ (List.mem_of_getElem? (i := 6) rfl))
  obtain ⟨c7, i7, k7⟩ := u_known (C := RX5) (T := TX5) (N := 1) (n := 1) hts (fun _ h => jw_tbl _ (ju_X5 _ h)) (hi _ (List.mem_of_getElem? (i := 7) rfl))
  obtain ⟨c8, i8, k8⟩ := u_known (C := RX6) (T := TX6) (N := 7) (n := 7) hts (fun _ h => jw_tbl _ (ju_X6 _ h)) (hi _ (List.mem_of_getElem? (i := 8) rfl))
  obtain ⟨c9, i9, k9⟩ := u_known (C := RX7) (T := TX7) (N := 3) (n := 3) hts (fun _ h => jw_tbl _ (ju_X7 _ h)) (hi _ (List.mem_of_getElem? (i := 9) rfl))
  obtain ⟨c10, i10, k10⟩ := u_known (C := RX8) (T := TX8) (N := 8) (n := 8) hts (fun _ h => jw_tbl _ (ju_X8 _ h)) (hi _ (List.mem_of_getElem? (i := 10) rfl))
  obtain ⟨c11, i11, k11⟩ := u_known (C := RX9) (T := TX9) (N := 16) (n := 16) hts (fun _ h => jw_tbl _ (ju_X9 _ h)) (hi _ (List.mem_of_getElem? (i := 11) rfl))
  obtain ⟨g0, a0⟩ := jAcls (ty := .int) trivial (hi _ (List.mem_of_getElem? (i := 12) rfl))
  obtain ⟨g1, a1⟩ := jAcls (ty := .char) trivial (hi _ (List.mem_of_getElem? (i := 13) rfl))
  obtain ⟨g2, a2⟩ := jAcls (ty := .long) trivial (hi _ (List.mem_of_getElem? (i := 14) rfl))
  obtain ⟨g3, a3⟩ := jAcls (ty := .double) trivial (hi _ (List.mem_of_getElem? (i := 15) rfl))
  obtain ⟨g4, a4⟩ := jArrO (hi _ (List.mem_of_getElem? (i := 16) rfl))
  refine ⟨((fun k => match k with | 0 => c0 | 1 => c1 | 2 => c2 | 3 => c3 | 4 => c4 | 5 => c5 | 6 => c6 | 7 => c7 | 8 => c8 | 9 => c9 | 10 => c10 | _ => c11), (fun k => match k with | 0 => i0 | 1 => i1 | 2 => i2 | 3 => i3 | 4 => i4 | 5 => i5 | 6 => i6 | 7 => i7 | 8 => i8 | 9 => i9 | 10 => i10 | _ => i11)), (fun k => match k with | 0 => g0 | 1 => g1 | 2 => g4 | 3 => g2 | _ => g3), ⟨fun c q hq => ?_, fun k q hq => ?_⟩, ?_⟩
  · match c, hq with
    | 0, hq => cases hq; exact k0
    | 1, hq => cases hq; exact k1
    | 2, hq => cases hq; exact k2
    | 3, hq => cases hq; exact k3
    | 4, hq => cases hq; exact k4
    | 5, hq => cases hq; exact k5
    | 6, hq => cases hq; exact k6
    | 7, hq => cases hq; exact k7
    | 8, hq => cases hq; exact k8
    | 9, hq => cases hq; exact k9
    | 10, hq => cases hq; exact k10
    | 11, hq => cases hq; exact k11
    | k + 12, hq => simp at hq
  · match k, hq with
    | 0, hq => cases hq; exact a0
    | 1, hq => cases hq; exact a1
    | 2, hq => cases hq; exact a4
    | 3, hq => cases hq; exact a2
    | 4, hq => cases hq; exact a3
    | k + 5, hq => simp at hq
  · intro w hw
    have h1 := List.all_eq_true.mp jnw_nest w hw
    have h2 := hts w (jn_tbl w hw)
    cases w <;> first | exact va_Nw.of rfl h2 | (simp [jNest] at h1; done) | (rename_i ty; cases ty <;> first | exact va_AO.of h2 | (simp [jNest] at h1; done))
def jcw : List Cond := [.not (.castable "java/lang/IndexOutOfBoundsException" "java/lang/IllegalArgumentException"), .not (.castable "java/lang/IndexOutOfBoundsException" "java/lang/IllegalStateException"), .not (.castable "java/lang/IndexOutOfBoundsException" "java/lang/UnsupportedOperationException"), .not (.castable "java/lang/IndexOutOfBoundsException" "java/util/NoSuchElementException"), .not (.castable "java/lang/IndexOutOfBoundsException" "java/lang/ArithmeticException"), .not (.castable "java/lang/IllegalArgumentException" "java/lang/IndexOutOfBoundsException"), .not (.castable "java/lang/IllegalArgumentException" "java/lang/IllegalStateException"), .not (.castable "java/lang/IllegalArgumentException" "java/lang/UnsupportedOperationException"), .not (.castable "java/lang/IllegalArgumentException" "java/util/NoSuchElementException"), .not (.castable "java/lang/IllegalArgumentException" "java/lang/ArithmeticException"), .not (.castable "java/lang/IllegalStateException" "java/lang/IndexOutOfBoundsException"), .not (.castable "java/lang/IllegalStateException" "java/lang/IllegalArgumentException"), .not (.castable "java/lang/IllegalStateException" "java/lang/UnsupportedOperationException"), .not (.castable "java/lang/IllegalStateException" "java/util/NoSuchElementException"), .not (.castable "java/lang/IllegalStateException" "java/lang/ArithmeticException"), .not (.castable "java/lang/UnsupportedOperationException" "java/lang/IndexOutOfBoundsException"), .not (.castable "java/lang/UnsupportedOperationException" "java/lang/IllegalArgumentException"), .not (.castable "java/lang/UnsupportedOperationException" "java/lang/IllegalStateException"), .not (.castable "java/lang/UnsupportedOperationException" "java/util/NoSuchElementException"), .not (.castable "java/lang/UnsupportedOperationException" "java/lang/ArithmeticException"), .not (.castable "java/util/NoSuchElementException" "java/lang/IndexOutOfBoundsException"), .not (.castable "java/util/NoSuchElementException" "java/lang/IllegalArgumentException"), .not (.castable "java/util/NoSuchElementException" "java/lang/IllegalStateException"), .not (.castable "java/util/NoSuchElementException" "java/lang/UnsupportedOperationException"), .not (.castable "java/util/NoSuchElementException" "java/lang/ArithmeticException"), .not (.castable "java/lang/ArithmeticException" "java/lang/IndexOutOfBoundsException"), .not (.castable "java/lang/ArithmeticException" "java/lang/IllegalArgumentException"), .not (.castable "java/lang/ArithmeticException" "java/lang/IllegalStateException"), .not (.castable "java/lang/ArithmeticException" "java/lang/UnsupportedOperationException"), .not (.castable "java/lang/ArithmeticException" "java/util/NoSuchElementException")]
