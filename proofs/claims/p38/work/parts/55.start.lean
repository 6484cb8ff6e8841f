set_option maxHeartbeats 4000000 in
set_option maxRecDepth 100000 in
theorem jn_tbl : ∀ w ∈ jnw, w ∈ lw_tbl := by decide +kernel
def jiw : List Cond := [Cond.instantiable RX0 2, Cond.instantiable RX1 5, Cond.instantiable RX2 7, Cond.instantiable RX3 6, Cond.instantiable RX4 4, Cond.instantiable RX5 1, Cond.instantiable RX6 7, Cond.instantiable RX7 3, Cond.instantiable RX8 8, Cond.arrayClass .int, Cond.arrayClass .char, Cond.arrayOver (.object "TheatreSeasons$Season"), Cond.arrayOver (.array .int)]
set_option maxHeartbeats 4000000 in
set_option maxRecDepth 100000 in
theorem ji_tbl : ∀ w ∈ jiw, w ∈ lw_tbl := by decide +kernel
theorem jAcls {s : State} {args : Array Value} {ty : FieldType} (hp : (match ty with | .object _ => False | _ => True)) (h : (Cond.arrayClass ty).before args s = true) : ∃ cA : ClassId, ArrOfT s cA ty ∧ va_RA s cA ty := by
  obtain ⟨cA, kA, comp, hfind, hk, hkind⟩ := Cond.arrayClass_spec h
  refine ⟨cA, fun n z => ⟨fun k h => ?_, kA, hk, comp, hkind⟩, ?_⟩
  · cases h
  · cases ty <;> first | exact hfind | exact hp.elim
theorem jArrO {s : State} {args : Array Value} {o : String} (h : (Cond.arrayOver (.object o)).before args s = true) : ∃ cA : ClassId, ArrOfT s cA (.object o) ∧ va_RA s cA (.object o) := by
  obtain ⟨comp, c, k, h1, h2, h3, h4, h5⟩ := Cond.arrayOver_spec h
  exact ⟨c, fun n z => ⟨fun k h => (by cases h), k, h3, comp, h4⟩, k, comp, h3, h4, h1, h5⟩
theorem jArrA {s : State} {args : Array Value} (h : (Cond.arrayOver (.array .int)).before args s = true) : ∃ cA : ClassId, ArrOfT s cA (.array .int) ∧ va_RA s cA (.array .int) := by
  obtain ⟨d, c, k, h1, h2, h3, h4⟩ := tm_over h
  exact ⟨c, fun n z => ⟨fun k h => (by cases h), k, h2, d, h3⟩, h4⟩
set_option maxHeartbeats 4000000 in
set_option maxRecDepth 100000 in
theorem law_K {s : State} {args : Array Value} (hts : ∀ w ∈ lw_tbl, w.before args s = true) : ∃ (D : va_G) (G : Nat → ClassId), jK D G s := by
  have hi : ∀ w ∈ jiw, w.before args s = true := fun w h => hts w (ji_tbl w h)
  obtain ⟨c0, i0, k0⟩ := u_known (C := RX0) (T := TX0) (N := 2) (n := 2) hts (fun _ h => jw_tbl _ (ju_X0 _ h)) (hi _ (List.mem_of_getElem? (i := 0) rfl))
  obtain ⟨c1, i1, k1⟩ := u_known (C := RX1) (T := TX1) (N := 5) (n := 5) hts (fun _ h => jw_tbl _ (ju_X1 _ h)) (hi _ (List.mem_of_getElem? (i := 1) rfl))
  obtain ⟨c2, i2, k2⟩ := u_known (C := RX2) (T := TX2) (N := 7) (n := 7) hts (fun _ h => jw_tbl _ (ju_X2 _ h)) (hi _ (List.mem_of_getElem? (i := 2) rfl))
  obtain ⟨c3, i3, k3⟩ := u_known (C := RX3) (T := TX3) (N := 6) (n := 6) hts (fun _ h => jw_tbl _ (ju_X3 _ h)) (hi _ (List.mem_of_getElem? (i := 3) rfl))
  obtain ⟨c4, i4, k4⟩ := u_known (C := RX4) (T := TX4) (N := 4) (n := 4) hts (fun _ h => jw_tbl _ (ju_X4 _ h)) (hi _ (List.mem_of_getElem? (i := 4) rfl))
  obtain ⟨c5, i5, k5⟩ := u_known (C := RX5) (T := TX5) (N := 1) (n := 1) hts (fun _ h => jw_tbl _ (ju_X5 _ h)) (hi _ (List.mem_of_getElem? (i := 5) rfl))
  obtain ⟨c6, i6, k6⟩ := u_known (C := RX6) (T := TX6) (N := 7) (n := 7) hts (fun _ h => jw_tbl _ (ju_X6 _ h)) (hi _ (List.mem_of_getElem? (i := 6) rfl))
  obtain ⟨c7, i7, k7⟩ := u_known (C := RX7) (T := TX7) (N := 3) (n := 3) hts (fun _ h => jw_tbl _ (ju_X7 _ h)) (hi _ (List.mem_of_getElem? (i := 7) rfl))
  obtain ⟨c8, i8, k8⟩ := u_known (C := RX8) (T := TX8) (N := 8) (n := 8) hts (fun _ h => jw_tbl _ (ju_X8 _ h)) (hi _ (List.mem_of_getElem? (i := 8) rfl))
  obtain ⟨g0, a0⟩ := jAcls (ty := .int) trivial (hi _ (List.mem_of_getElem? (i := 9) rfl))
  obtain ⟨g1, a1⟩ := jAcls (ty := .char) trivial (hi _ (List.mem_of_getElem? (i := 10) rfl))
  obtain ⟨g2, a2⟩ := jArrO (hi _ (List.mem_of_getElem? (i := 11) rfl))
  obtain ⟨g3, a3⟩ := jArrA (hi _ (List.mem_of_getElem? (i := 12) rfl))
  refine ⟨((fun k => match k with | 0 => c0 | 1 => c0 | 2 => c0 | 3 => c1 | 4 => c2 | 5 => c3 | 6 => c4 | 7 => c5 | 8 => c6 | 9 => c7 | _ => c8), (fun k => match k with | 0 => i0 | 1 => i0 | 2 => i0 | 3 => i1 | 4 => i2 | 5 => i3 | 6 => i4 | 7 => i5 | 8 => i6 | 9 => i7 | _ => i8)), (fun k => match k with | 0 => g0 | 1 => g1 | 2 => g2 | _ => g3), ⟨fun c q hq => ?_, fun k q hq => ?_⟩, ?_⟩
  · match c, hq with
    | 0, hq => cases hq; exact k0
    | 1, hq => cases hq; exact k0
    | 2, hq => cases hq; exact k0
    | 3, hq => cases hq; exact k1
    | 4, hq => cases hq; exact k2
    | 5, hq => cases hq; exact k3
    | 6, hq => cases hq; exact k4
    | 7, hq => cases hq; exact k5
    | 8, hq => cases hq; exact k6
    | 9, hq => cases hq; exact k7
    | 10, hq => cases hq; exact k8
    | k + 11, hq => simp at hq
  · match k, hq with
    | 0, hq => cases hq; exact a0
    | 1, hq => cases hq; exact a1
    | 2, hq => cases hq; exact a2
    | 3, hq => cases hq; exact a3
    | k + 4, hq => simp at hq
  · intro w hw
    have h1 := List.all_eq_true.mp jnw_nest w hw
    have h2 := hts w (jn_tbl w hw)
    cases w <;> first | exact va_Nw.of rfl h2 | (simp [jNest] at h1; done) | (rename_i ty; cases ty <;> first | exact va_AO.of h2 | (simp [jNest] at h1; done))
abbrev FL : List Cond := flatC (Jvm.Cond.and given_1 narrow_1)
def jst : List Cond := [.isRef (.static Bundle.tN "UNASSIGNED_STACK" Bundle.steD), .isRef (.static Bundle.tN "SUPPRESSED_SENTINEL" Bundle.listD), .not (.castable "java/lang/UnsupportedOperationException" "java/lang/IllegalStateException")]
set_option maxHeartbeats 4000000 in
set_option maxRecDepth 100000 in
theorem jst_in : ∀ w ∈ jst, w ∈ FL := by decide +kernel
def jls : List Cond := [.laysStatic Bundle.tN "UNASSIGNED_STACK" Bundle.steD, .laysStatic Bundle.tN "SUPPRESSED_SENTINEL" Bundle.listD, .initialized Bundle.tN, .instantiable "TheatreSeasons" 8, .stringRef "TheatreSeasons" 348 "no such number", .stringRef "TheatreSeasons" 116 "what is not 0 to 7", .stringRef "TheatreSeasons" 351 "out of range", .stringRef "TheatreSeasons" 173 "no performance on this stage on this date", .stringRef "TheatreSeasons" 202 "no request has this place", .stringRef "TheatreSeasons" 245 "what is not 0 to 3", .stringRef "TheatreSeasons" 254 "the production has no performances", .stringRef "TheatreSeasons" 282 "account is not 0 to 14", .stringRef "TheatreSeasons" 339 "there is no place for one more", .stringRef "TheatreSeasons" 343 "refused; reason() tells why", .stringRef "TheatreSeasons" 257 "no reason was kept"]
set_option maxHeartbeats 4000000 in
set_option maxRecDepth 100000 in
theorem jls_in : ∀ w ∈ jls, w ∈ lw_tbl := by decide +kernel
theorem law_C {s : State} {args : Array Value} (hs : ∀ w ∈ FL, w.before args s = true) : jC s := va_Nc.of (hs _ (jst_in _ (List.mem_of_getElem? (i := 2) rfl)))
set_option maxHeartbeats 4000000 in
set_option maxRecDepth 100000 in
theorem law_Z {s : State} {args : Array Value} (ks va : Nat → Nat) (hts : ∀ w ∈ lw_tbl, w.before args s = true) (hs : ∀ w ∈ FL, w.before args s = true) : jZ ks va (fun q => s.heap.size ≤ q) s s.heap := by
  have hA : ∀ a : Nat, a < s.heap.size → ¬ (fun q => s.heap.size ≤ q) a := fun a h h2 => absurd h (Nat.not_lt.mpr h2)
  obtain ⟨cur, _, hcur, -⟩ := Cond.instantiable_spec (hts _ (jls_in _ (List.mem_of_getElem? (i := 3) rfl)))
  have key : ∀ (k : Nat) (tx : String), (Cond.stringRef "TheatreSeasons" k tx).before args s = true → ∃ a : Nat, vk_R RX8 k tx a s := by
    intro k tx h
    obtain ⟨_, _, _, a, -, -, -, -, -, he⟩ := Cond.stringRef_spec hcur h
    exact ⟨a, vk_R.of h he⟩
  refine ⟨trivial, trivial, trivial, trivial, vx_Zqof (hts _ (jls_in _ (List.mem_of_getElem? (i := 0) rfl))) (hts _ (jls_in _ (List.mem_of_getElem? (i := 2) rfl))) (hs _ (jst_in _ (List.mem_of_getElem? (i := 0) rfl))) hA, vx_Zqof (hts _ (jls_in _ (List.mem_of_getElem? (i := 1) rfl))) (hts _ (jls_in _ (List.mem_of_getElem? (i := 2) rfl))) (hs _ (jst_in _ (List.mem_of_getElem? (i := 1) rfl))) hA, ?_⟩
  exact List.forall_mem_cons.mpr ⟨key _ _ (hts _ (jls_in _ (List.mem_of_getElem? (i := 4) rfl))), List.forall_mem_cons.mpr ⟨key _ _ (hts _ (jls_in _ (List.mem_of_getElem? (i := 5) rfl))), List.forall_mem_cons.mpr ⟨key _ _ (hts _ (jls_in _ (List.mem_of_getElem? (i := 6) rfl))), List.forall_mem_cons.mpr ⟨key _ _ (hts _ (jls_in _ (List.mem_of_getElem? (i := 7) rfl))), List.forall_mem_cons.mpr ⟨key _ _ (hts _ (jls_in _ (List.mem_of_getElem? (i := 8) rfl))), List.forall_mem_cons.mpr ⟨key _ _ (hts _ (jls_in _ (List.mem_of_getElem? (i := 9) rfl))), List.forall_mem_cons.mpr ⟨key _ _ (hts _ (jls_in _ (List.mem_of_getElem? (i := 10) rfl))), List.forall_mem_cons.mpr ⟨key _ _ (hts _ (jls_in _ (List.mem_of_getElem? (i := 11) rfl))), List.forall_mem_cons.mpr ⟨key _ _ (hts _ (jls_in _ (List.mem_of_getElem? (i := 12) rfl))), List.forall_mem_cons.mpr ⟨key _ _ (hts _ (jls_in _ (List.mem_of_getElem? (i := 13) rfl))), List.forall_mem_cons.mpr ⟨key _ _ (hts _ (jls_in _ (List.mem_of_getElem? (i := 14) rfl))), List.forall_mem_nil _⟩⟩⟩⟩⟩⟩⟩⟩⟩⟩⟩
