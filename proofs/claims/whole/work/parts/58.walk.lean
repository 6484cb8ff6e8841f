theorem nlt {L i : Nat} (hL : L ≤ 2560) (hi : i ≤ 2565) : (Int32.ofNat L - 5 < nI i) ↔ L < i + 5 := by
  have e1 : (Int32.ofNat L).toInt = L := Int32.toInt_ofNat_of_lt (by omega)
  have e2 : (nI i).toInt = i := Int32.toInt_ofNat_of_lt (by omega)
  have e3 : (5 : Int32).toInt = 5 := rfl
  have e4 : ((L : Int) - 5).bmod (2 ^ 32) = L - 5 := by
    first
      | (rw [Int.bmod_eq_of_le (by omega) (by omega)]; done)
      | (simp only [Int.bmod]; omega)
  rw [Int32.lt_iff_toInt_lt, Int32.toInt_sub, e1, e2, e3, e4]
  omega
theorem nin {L i k : Nat} (h : i + k < L) (hL : L ≤ 2560) : vp_in (nI i + nI k) L := by
  have e : nI i + nI k = nI (i + k) := (Int32.ofNat_add i k).symm
  rw [e]
  have e2 : (nI (i + k)).toInt = ((i + k : Nat) : Int) := Int32.toInt_ofNat_of_lt (by omega)
  have e3 : (nI (i + k)).toNatClampNeg = i + k := by
    show (nI (i + k)).toInt.toNat = i + k
    rw [e2]; rfl
  rintro (h1 | h1)
  · rw [Int32.lt_iff_toInt_lt, e2] at h1
    have e4 : (0 : Int32).toInt = 0 := rfl
    omega
  · rw [e3] at h1
    omega
theorem permZ {α : Type} (p q : List α) (x y : α) : ((([] ++ q) ++ p) ++ [x] ++ [y]).Perm (p ++ (q ++ ([x] ++ [y]))) := by
  classical
  rw [List.perm_iff_count]
  intro z
  simp only [List.count_append, List.nil_append]
  omega
set_option maxHeartbeats 4000000 in
set_option maxRecDepth 100000 in
theorem whole_walk {Rl : (Nat → Nat → Nat → Int32) → (Nat → Nat → Int32) → Prop} (hR0 : Rl mT0 mM0) (e_setSeats : jE_setSeats Rl) (e_setStaff : jE_setStaff Rl) (e_setRoom : jE_setRoom Rl) (e_addProduction : jE_addProduction Rl) (e_production : jE_production Rl) (e_perform : jE_perform Rl) (e_cancel : jE_cancel Rl) (e_move : jE_move Rl) (e_performance : jE_performance Rl) (e_on : jE_on Rl) (e_nextDate : jE_nextDate Rl) (e_bestMove : jE_bestMove Rl) (e_load : jE_load Rl) (e_peak : jE_peak Rl) (e_sell : jE_sell Rl) (e_refund : jE_refund Rl) (e_request : jE_request Rl) (e_waiting : jE_waiting Rl) (e_seats : jE_seats Rl) (e_seatsAgain : jE_seatsAgain Rl) (e_subscribe : jE_subscribe Rl) (e_hold : jE_hold Rl) (e_release : jE_release Rl) (e_exchange : jE_exchange Rl) (e_subscription : jE_subscription Rl) (e_partner : jE_partner Rl) (e_fullness : jE_fullness Rl) (e_reason : jE_reason Rl) (e_account : jE_account Rl) (e_append : jE_append Rl) (e_read : jE_read Rl) (e_errorPosition : jE_errorPosition Rl) (e_undo : jE_undo Rl) (e_save : jE_save Rl) (e_restore : jE_restore Rl)
    {p : Program} {e : Env} {s : State} {m : MethodId} {below : List Frame} {meth : Method} {c : Code} (l : Launch) (hl0 : l.stackTraces = false) {b L : Nat} {xs : Nat → Int32} (hL : L ≤ 2560)
    (hx : p.tables.exec = Jvm.exec) (hb : c.code = code) (hr : meth.sig.returnType = ret) (hml : c.maxLocals = 9) (hown : s.vm.findClass RL = some m.cls) (hts : ∀ w ∈ lw_tbl, w.before #[Value.ref b] s = true) (hX : va_X b L xs s s.heap) (hbl : b < s.heap.size) (hlocks : meth.locks = false) (hgv : (Jvm.Cond.and given_1 narrow_1).before #[Value.ref b] s = true)
    {Q : State → Prop} (hend : ∀ (H : Heap) (locs : List Loc) (ls : Array Slot), (∀ q ∈ locs, s.heap.size ≤ q.base) → W p l e room_1 s m #[Value.ref b] below meth c H locs 603072 7174250 Q (F0 m 2410 ls [.int 1])) :
    W p l e room_1 s m #[Value.ref b] below meth c s.heap [] 0 0 Q (entryFrame m ([Value.ref b] : List Value).toArray 9) := by
  have hs : ∀ w ∈ FL, w.before #[Value.ref b] s = true := flat_of_before _ hgv
  obtain ⟨D, G, hK0⟩ := law_K hts
  obtain ⟨ks, va, hZ⟩ := law_Z hts hs
  have hC := law_C hs
  have C : Cx p s m #[Value.ref b] meth c cL_law 9 RL ret D G := ⟨hx, hb, hr, hml, fun w h => hts w (jw_tbl w h), hown, hlocks, hK0⟩
  have hK := hK0.1
  have hts : ∀ w ∈ jw, w.before #[Value.ref b] s = true := C.2.2.2.2.1
  generalize hAe : (fun q : Nat => s.heap.size ≤ q) = A at hZ
  have hA : ∀ q : Nat, s.heap.size ≤ q → A q := fun q h => by rw [← hAe]; exact h
  have hbA : ¬ A b := by rw [← hAe]; exact Nat.not_le.mpr hbl
  have hS : va_S A s.heap s.heap [] := va_S.rf
  have hP : va_P D vwCl [] s.heap := jE
  have hD : va_D A [] := ⟨fun i j x y hi => by simp at hi, fun k q h => by simp at h⟩
  have hl := lv_entry ([.ref b]) (n := 9) (Nat.le_of_ble_eq_true rfl)
  rw [lg_entry_eq]
  generalize (lg_sl ([.ref b]) ++ List.replicate (9 - (lg_sl ([.ref b])).length) Slot.unset).toArray = ls at hl ⊢
  have hl : lv_has ls 9 [(0, .ref b)] := hl
  have loop : ∀ (a : Nat → Nat) (B : Nat → Nat → Nat) (o1 o2 : Nat) (n j : Nat), n + j = 513 → ∀ (S : Nat → Nat → Nat → Int32) (M : Nat → Nat → Int32) (f1 : Nat → Int64) (f2 : Nat → UInt64) (ls : Array Slot) (H : Heap) (locs : List Loc), Rl S M → va_P D vwCl (lwW a B G o1 o2 S M f1 f2) H → va_D A (lwW a B G o1 o2 S M f1 f2) → va_S A s.heap H locs → lv_has ls 9 [(5, .int (nI (5 * j))), (4, .ref o2), (3, .ref o1), (2, .ref (a 0)), (1, .ref (B 9 0)), (0, .ref b)] → W p l e room_1 s m #[Value.ref b] below meth c H locs (364 + 3 * j) (5376 + 18 * j) Q (F0 m 28 ls []) := by
    intro a B o1 o2 n
    induction n with
    | zero =>
      intro j hj S M f1 f2 ls H locs hR hP hD hS hl
      obtain rfl : j = 513 := by omega
      refine lv_iload hx hb dL_law_28 (lv_at hl 0 rfl) ?_
      refine lv_aload_n hx hb dL_law_30 rfl (lv_at hl 5 rfl) ?_
      refine va_slen hx hb hX hbl hbA hS dL_law_31 ?_
      refine lv_iconst (v := 5) hx hb dL_law_32 (by decide) ?_
      refine lv_isub hx hb dL_law_33 ?_
      refine lv_icmp_gt (tgt := 2409) hx hb dL_law_34 (by decide) (fun _ => ?_) (fun h => absurd ((nlt hL (by omega)).mpr (by omega)) h)
      refine lv_iconst (v := 1) hx hb dL_law_2409 (by decide) ?_
      refine W.widen (k := 603072) (n := 7174250) (by omega) (by omega) ?_
      exact hend H locs ls (fun q hq => by have := hS.2.2 q hq; rw [← hAe] at this; exact this)
    | succ n ih =>
      intro j hj S M f1 f2 ls H locs hR hP hD hS hl
      refine lv_iload hx hb dL_law_28 (lv_at hl 0 rfl) ?_
      refine lv_aload_n hx hb dL_law_30 rfl (lv_at hl 5 rfl) ?_
      refine va_slen hx hb hX hbl hbA hS dL_law_31 ?_
      refine lv_iconst (v := 5) hx hb dL_law_32 (by decide) ?_
      refine lv_isub hx hb dL_law_33 ?_
      refine lv_icmp_gt (tgt := 2409) hx hb dL_law_34 (by decide) (fun _ => ?_) (fun hn => ?_)
      · skip
        refine lv_iconst (v := 1) hx hb dL_law_2409 (by decide) ?_
        refine W.widen (k := 603072) (n := 7174250) (by omega) (by omega) ?_
        exact hend H locs ls (fun q hq => by have := hS.2.2 q hq; rw [← hAe] at this; exact this)
      · have hi : 5 * j + 5 ≤ L := Nat.not_lt.mp (fun h => hn ((nlt hL (by omega)).mpr h))
        have h0 : vp_in (nI (5 * j)) L := by
          have h := nin (i := 5 * j) (k := 0) (by omega) hL
          rwa [show nI (5 * j) + nI 0 = nI (5 * j) from Int32.add_zero _] at h
        have h1 : vp_in (nI (5 * j) + 1) L := nin (i := 5 * j) (k := 1) (by omega) hL
        have h2 : vp_in (nI (5 * j) + 2) L := nin (i := 5 * j) (k := 2) (by omega) hL
        have h3 : vp_in (nI (5 * j) + 3) L := nin (i := 5 * j) (k := 3) (by omega) hL
        have h4 : vp_in (nI (5 * j) + 4) L := nin (i := 5 * j) (k := 4) (by omega) hL
        have hsu : nI (5 * j) + Int32.ofInt 5 = nI (5 * (j + 1)) := (Int32.ofNat_add (5 * j) 5).symm
        refine lv_aload_n hx hb dL_law_37 rfl (lv_at hl 5 rfl) ?_
        refine lv_iload hx hb dL_law_38 (lv_at hl 0 rfl) ?_
        refine va_sld hx hb hX hbl hbA hS h0 dL_law_40 ?_
        refine lv_bipush (v := 63) hx hb dL_law_41 (by decide) ?_
        refine lv_iand hx hb dL_law_43 ?_
        generalize (xs (nI (5 * j)).toNatClampNeg &&& 63) = x
        have kk : ∀ (S : Nat → Nat → Nat → Int32) (M : Nat → Nat → Int32) (f1 : Nat → Int64) (f2 : Nat → UInt64) (ls : Array Slot) (H : Heap) (locs : List Loc), Rl S M → va_P D vwCl (lwW a B G o1 o2 S M f1 f2) H → va_D A (lwW a B G o1 o2 S M f1 f2) → va_S A s.heap H locs → lv_has ls 9 [(5, .int (nI (5 * j))), (4, .ref o2), (3, .ref o1), (2, .ref (a 0)), (1, .ref (B 9 0)), (0, .ref b)] → W p l e room_1 s m #[Value.ref b] below meth c H locs (364 + 3 * j + 3) (5376 + 18 * j + 18) Q (F0 m 2403 ls []) := by
          intro S M f1 f2 ls H locs hR hP hD hS hl
          refine lv_iinc (v := nI (5 * (j + 1))) (lv' := [(5, .int (nI (5 * (j + 1)))), (4, .ref o2), (3, .ref o1), (2, .ref (a 0)), (1, .ref (B 9 0)), (0, .ref b)]) hx hb dL_law_2403 hl (k := 0) rfl hsu (by decide) rfl (fun ls hl => ?_)
          refine lv_goto (tgt := 28) hx hb dL_law_2406 (by decide) ?_
          refine W.widen (k := 364 + 3 * (j + 1)) (n := 5376 + 18 * (j + 1)) (by omega) (by omega) ?_
          exact ih (j + 1) (by omega) S M f1 f2 ls H locs hR hP hD hS hl
        by_cases c0 : x = 0
        · refine lv_tableIn (tgt := 200) hx hb dL_law_44 (by rw [c0]; decide) (by rw [c0]; decide) (by rw [c0]; rfl) (by decide) ?_
          exact lc_setSeats C hl0 hZ hC hA hX hbl hbA h0 h1 h2 h3 h4 e_setSeats S M f1 f2 ls H locs _ _ (by omega) (by omega) hR hP hD hS hl kk
        by_cases c1 : x = 1
        · refine lv_tableIn (tgt := 268) hx hb dL_law_44 (by rw [c1]; decide) (by rw [c1]; decide) (by rw [c1]; rfl) (by decide) ?_
          exact lc_setStaff C hl0 hZ hC hA hX hbl hbA h0 h1 h2 h3 h4 e_setStaff S M f1 f2 ls H locs _ _ (by omega) (by omega) hR hP hD hS hl kk
        by_cases c2 : x = 2
        · refine lv_tableIn (tgt := 324) hx hb dL_law_44 (by rw [c2]; decide) (by rw [c2]; decide) (by rw [c2]; rfl) (by decide) ?_
          exact lc_setRoom C hl0 hZ hC hA hX hbl hbA h0 h1 h2 h3 h4 e_setRoom S M f1 f2 ls H locs _ _ (by omega) (by omega) hR hP hD hS hl kk
        by_cases c3 : x = 3
        · refine lv_tableIn (tgt := 380) hx hb dL_law_44 (by rw [c3]; decide) (by rw [c3]; decide) (by rw [c3]; rfl) (by decide) ?_
          exact lc_addProduction C hl0 hZ hC hA hX hbl hbA h0 h1 h2 h3 h4 e_addProduction S M f1 f2 ls H locs _ _ (by omega) (by omega) hR hP hD hS hl kk
        by_cases c4 : x = 4
        · refine lv_tableIn (tgt := 472) hx hb dL_law_44 (by rw [c4]; decide) (by rw [c4]; decide) (by rw [c4]; rfl) (by decide) ?_
          exact lc_production C hl0 hZ hC hA hX hbl hbA h0 h1 h2 h3 h4 e_production S M f1 f2 ls H locs _ _ (by omega) (by omega) hR hP hD hS hl kk
        by_cases c5 : x = 5
        · refine lv_tableIn (tgt := 540) hx hb dL_law_44 (by rw [c5]; decide) (by rw [c5]; decide) (by rw [c5]; rfl) (by decide) ?_
          exact lc_perform C hl0 hZ hC hA hX hbl hbA h0 h1 h2 h3 h4 e_perform S M f1 f2 ls H locs _ _ (by omega) (by omega) hR hP hD hS hl kk
        by_cases c6 : x = 6
        · refine lv_tableIn (tgt := 620) hx hb dL_law_44 (by rw [c6]; decide) (by rw [c6]; decide) (by rw [c6]; rfl) (by decide) ?_
          exact lc_cancel C hl0 hZ hC hA hX hbl hbA h0 h1 h2 h3 h4 e_cancel S M f1 f2 ls H locs _ _ (by omega) (by omega) hR hP hD hS hl kk
        by_cases c7 : x = 7
        · refine lv_tableIn (tgt := 676) hx hb dL_law_44 (by rw [c7]; decide) (by rw [c7]; decide) (by rw [c7]; rfl) (by decide) ?_
          exact lc_move C hl0 hZ hC hA hX hbl hbA h0 h1 h2 h3 h4 e_move S M f1 f2 ls H locs _ _ (by omega) (by omega) hR hP hD hS hl kk
        by_cases c8 : x = 8
        · refine lv_tableIn (tgt := 744) hx hb dL_law_44 (by rw [c8]; decide) (by rw [c8]; decide) (by rw [c8]; rfl) (by decide) ?_
          exact lc_performance C hl0 hZ hC hA hX hbl hbA h0 h1 h2 h3 h4 e_performance S M f1 f2 ls H locs _ _ (by omega) (by omega) hR hP hD hS hl kk
        by_cases c9 : x = 9
        · refine lv_tableIn (tgt := 812) hx hb dL_law_44 (by rw [c9]; decide) (by rw [c9]; decide) (by rw [c9]; rfl) (by decide) ?_
          exact lc_on C hl0 hZ hC hA hX hbl hbA h0 h1 h2 h3 h4 e_on S M f1 f2 ls H locs _ _ (by omega) (by omega) hR hP hD hS hl kk
        by_cases c10 : x = 10
        · refine lv_tableIn (tgt := 880) hx hb dL_law_44 (by rw [c10]; decide) (by rw [c10]; decide) (by rw [c10]; rfl) (by decide) ?_
          exact lc_nextDate C hl0 hZ hC hA hX hbl hbA h0 h1 h2 h3 h4 e_nextDate S M f1 f2 ls H locs _ _ (by omega) (by omega) hR hP hD hS hl kk
        by_cases c11 : x = 11
        · refine lv_tableIn (tgt := 960) hx hb dL_law_44 (by rw [c11]; decide) (by rw [c11]; decide) (by rw [c11]; rfl) (by decide) ?_
          exact lc_bestMove C hl0 hZ hC hA hX hbl hbA h0 h1 h2 h3 h4 e_bestMove S M f1 f2 ls H locs _ _ (by omega) (by omega) hR hP hD hS hl kk
        by_cases c12 : x = 12
        · refine lv_tableIn (tgt := 1016) hx hb dL_law_44 (by rw [c12]; decide) (by rw [c12]; decide) (by rw [c12]; rfl) (by decide) ?_
          exact lc_load C hl0 hZ hC hA hX hbl hbA h0 h1 h2 h3 h4 e_load S M f1 f2 ls H locs _ _ (by omega) (by omega) hR hP hD hS hl kk
        by_cases c13 : x = 13
        · refine lv_tableIn (tgt := 1072) hx hb dL_law_44 (by rw [c13]; decide) (by rw [c13]; decide) (by rw [c13]; rfl) (by decide) ?_
          exact lc_peak C hl0 hZ hC hA hX hbl hbA h0 h1 h2 h3 h4 e_peak S M f1 f2 ls H locs _ _ (by omega) (by omega) hR hP hD hS hl kk
        by_cases c14 : x = 14
        · refine lv_tableIn (tgt := 1085) hx hb dL_law_44 (by rw [c14]; decide) (by rw [c14]; decide) (by rw [c14]; rfl) (by decide) ?_
          exact lc_sell C hl0 hZ hC hA hX hbl hbA h0 h1 h2 h3 h4 e_sell S M f1 f2 ls H locs _ _ (by omega) (by omega) hR hP hD hS hl kk
        by_cases c15 : x = 15
        · refine lv_tableIn (tgt := 1153) hx hb dL_law_44 (by rw [c15]; decide) (by rw [c15]; decide) (by rw [c15]; rfl) (by decide) ?_
          exact lc_refund C hl0 hZ hC hA hX hbl hbA h0 h1 h2 h3 h4 e_refund S M f1 f2 ls H locs _ _ (by omega) (by omega) hR hP hD hS hl kk
        by_cases c16 : x = 16
        · refine lv_tableIn (tgt := 1221) hx hb dL_law_44 (by rw [c16]; decide) (by rw [c16]; decide) (by rw [c16]; rfl) (by decide) ?_
          exact lc_request C hl0 hZ hC hA hX hbl hbA h0 h1 h2 h3 h4 e_request S M f1 f2 ls H locs _ _ (by omega) (by omega) hR hP hD hS hl kk
        by_cases c17 : x = 17
        · refine lv_tableIn (tgt := 1301) hx hb dL_law_44 (by rw [c17]; decide) (by rw [c17]; decide) (by rw [c17]; rfl) (by decide) ?_
          exact lc_waiting C hl0 hZ hC hA hX hbl hbA h0 h1 h2 h3 h4 e_waiting S M f1 f2 ls H locs _ _ (by omega) (by omega) hR hP hD hS hl kk
        by_cases c18 : x = 18
        · refine lv_tableIn (tgt := 1397) hx hb dL_law_44 (by rw [c18]; decide) (by rw [c18]; decide) (by rw [c18]; rfl) (by decide) ?_
          exact lc_seats C hl0 hZ hC hA hX hbl hbA h0 h1 h2 h3 h4 e_seats S M f1 f2 ls H locs _ _ (by omega) (by omega) hR hP hD hS hl kk
        by_cases c19 : x = 19
        · refine lv_tableIn (tgt := 1465) hx hb dL_law_44 (by rw [c19]; decide) (by rw [c19]; decide) (by rw [c19]; rfl) (by decide) ?_
          exact lc_seatsAgain C hl0 hZ hC hA hX hbl hbA h0 h1 h2 h3 h4 e_seatsAgain S M f1 f2 ls H locs _ _ (by omega) (by omega) hR hP hD hS hl kk
        by_cases c20 : x = 20
        · refine lv_tableIn (tgt := 1533) hx hb dL_law_44 (by rw [c20]; decide) (by rw [c20]; decide) (by rw [c20]; rfl) (by decide) ?_
          exact lc_subscribe C hl0 hZ hC hA hX hbl hbA h0 h1 h2 h3 h4 e_subscribe S M f1 f2 ls H locs _ _ (by omega) (by omega) hR hP hD hS hl kk
        by_cases c21 : x = 21
        · refine lv_tableIn (tgt := 1589) hx hb dL_law_44 (by rw [c21]; decide) (by rw [c21]; decide) (by rw [c21]; rfl) (by decide) ?_
          exact lc_hold C hl0 hZ hC hA hX hbl hbA h0 h1 h2 h3 h4 e_hold S M f1 f2 ls H locs _ _ (by omega) (by omega) hR hP hD hS hl kk
        by_cases c22 : x = 22
        · refine lv_tableIn (tgt := 1657) hx hb dL_law_44 (by rw [c22]; decide) (by rw [c22]; decide) (by rw [c22]; rfl) (by decide) ?_
          exact lc_release C hl0 hZ hC hA hX hbl hbA h0 h1 h2 h3 h4 e_release S M f1 f2 ls H locs _ _ (by omega) (by omega) hR hP hD hS hl kk
        by_cases c23 : x = 23
        · refine lv_tableIn (tgt := 1725) hx hb dL_law_44 (by rw [c23]; decide) (by rw [c23]; decide) (by rw [c23]; rfl) (by decide) ?_
          exact lc_exchange C hl0 hZ hC hA hX hbl hbA h0 h1 h2 h3 h4 e_exchange S M f1 f2 ls H locs _ _ (by omega) (by omega) hR hP hD hS hl kk
        by_cases c24 : x = 24
        · refine lv_tableIn (tgt := 1805) hx hb dL_law_44 (by rw [c24]; decide) (by rw [c24]; decide) (by rw [c24]; rfl) (by decide) ?_
          exact lc_subscription C hl0 hZ hC hA hX hbl hbA h0 h1 h2 h3 h4 e_subscription S M f1 f2 ls H locs _ _ (by omega) (by omega) hR hP hD hS hl kk
        by_cases c25 : x = 25
        · refine lv_tableIn (tgt := 1873) hx hb dL_law_44 (by rw [c25]; decide) (by rw [c25]; decide) (by rw [c25]; rfl) (by decide) ?_
          exact lc_partner C hl0 hZ hC hA hX hbl hbA h0 h1 h2 h3 h4 e_partner S M f1 f2 ls H locs _ _ (by omega) (by omega) hR hP hD hS hl kk
        by_cases c26 : x = 26
        · refine lv_tableIn (tgt := 1951) hx hb dL_law_44 (by rw [c26]; decide) (by rw [c26]; decide) (by rw [c26]; rfl) (by decide) ?_
          exact lc_fullness C hl0 hZ hC hA hX hbl hbA h0 h1 h2 h3 h4 e_fullness S M f1 f2 ls H locs _ _ (by omega) (by omega) hR hP hD hS hl kk
        by_cases c27 : x = 27
        · refine lv_tableIn (tgt := 2028) hx hb dL_law_44 (by rw [c27]; decide) (by rw [c27]; decide) (by rw [c27]; rfl) (by decide) ?_
          exact lc_reason C hl0 hZ hC hA hX hbl hbA h0 h1 h2 h3 h4 e_reason S M f1 f2 ls H locs _ _ (by omega) (by omega) hR hP hD hS hl kk
        by_cases c28 : x = 28
        · refine lv_tableIn (tgt := 2100) hx hb dL_law_44 (by rw [c28]; decide) (by rw [c28]; decide) (by rw [c28]; rfl) (by decide) ?_
          exact lc_account C hl0 hZ hC hA hX hbl hbA h0 h1 h2 h3 h4 e_account S M f1 f2 ls H locs _ _ (by omega) (by omega) hR hP hD hS hl kk
        by_cases c29 : x = 29
        · refine lv_tableIn (tgt := 2156) hx hb dL_law_44 (by rw [c29]; decide) (by rw [c29]; decide) (by rw [c29]; rfl) (by decide) ?_
          exact lc_append C hl0 hZ hC hA hX hbl hbA h0 h1 h2 h3 h4 e_append S M f1 f2 ls H locs _ _ (by omega) (by omega) hR hP hD hS hl kk
        by_cases c30 : x = 30
        · refine lv_tableIn (tgt := 2214) hx hb dL_law_44 (by rw [c30]; decide) (by rw [c30]; decide) (by rw [c30]; rfl) (by decide) ?_
          exact lc_read C hl0 hZ hC hA hX hbl hbA h0 h1 h2 h3 h4 e_read S M f1 f2 ls H locs _ _ (by omega) (by omega) hR hP hD hS hl kk
        by_cases c31 : x = 31
        · refine lv_tableIn (tgt := 2258) hx hb dL_law_44 (by rw [c31]; decide) (by rw [c31]; decide) (by rw [c31]; rfl) (by decide) ?_
          exact lc_errorPosition C hl0 hZ hC hA hX hbl hbA h0 h1 h2 h3 h4 e_errorPosition S M f1 f2 ls H locs _ _ (by omega) (by omega) hR hP hD hS hl kk
        by_cases c32 : x = 32
        · refine lv_tableIn (tgt := 2302) hx hb dL_law_44 (by rw [c32]; decide) (by rw [c32]; decide) (by rw [c32]; rfl) (by decide) ?_
          exact lc_undo C hl0 hZ hC hA hX hbl hbA h0 h1 h2 h3 h4 e_undo S M f1 f2 ls H locs _ _ (by omega) (by omega) hR hP hD hS hl kk
        by_cases c33 : x = 33
        · refine lv_tableIn (tgt := 2346) hx hb dL_law_44 (by rw [c33]; decide) (by rw [c33]; decide) (by rw [c33]; rfl) (by decide) ?_
          exact lc_save C hl0 hZ hC hA hX hbl hbA h0 h1 h2 h3 h4 e_save S M f1 f2 ls H locs _ _ (by omega) (by omega) hR hP hD hS hl kk
        by_cases c34 : x = 34
        · refine lv_tableIn (tgt := 2359) hx hb dL_law_44 (by rw [c34]; decide) (by rw [c34]; decide) (by rw [c34]; rfl) (by decide) ?_
          exact lc_restore C hl0 hZ hC hA hX hbl hbA h0 h1 h2 h3 h4 e_restore S M f1 f2 ls H locs _ _ (by omega) (by omega) hR hP hD hS hl kk
        refine jTabDef (tgt := 2403) hx hb dL_law_44 (fun k h1 h2 h3 => ?_) (by decide) ?_
        · exfalso
          rcases (show k = 0 ∨ k = 1 ∨ k = 2 ∨ k = 3 ∨ k = 4 ∨ k = 5 ∨ k = 6 ∨ k = 7 ∨ k = 8 ∨ k = 9 ∨ k = 10 ∨ k = 11 ∨ k = 12 ∨ k = 13 ∨ k = 14 ∨ k = 15 ∨ k = 16 ∨ k = 17 ∨ k = 18 ∨ k = 19 ∨ k = 20 ∨ k = 21 ∨ k = 22 ∨ k = 23 ∨ k = 24 ∨ k = 25 ∨ k = 26 ∨ k = 27 ∨ k = 28 ∨ k = 29 ∨ k = 30 ∨ k = 31 ∨ k = 32 ∨ k = 33 ∨ k = 34 by omega) with rfl | rfl | rfl | rfl | rfl | rfl | rfl | rfl | rfl | rfl | rfl | rfl | rfl | rfl | rfl | rfl | rfl | rfl | rfl | rfl | rfl | rfl | rfl | rfl | rfl | rfl | rfl | rfl | rfl | rfl | rfl | rfl | rfl | rfl | rfl
          · exact c0 (Int32.toInt_inj.mp (h3.trans (by decide)))
          · exact c1 (Int32.toInt_inj.mp (h3.trans (by decide)))
          · exact c2 (Int32.toInt_inj.mp (h3.trans (by decide)))
          · exact c3 (Int32.toInt_inj.mp (h3.trans (by decide)))
          · exact c4 (Int32.toInt_inj.mp (h3.trans (by decide)))
          · exact c5 (Int32.toInt_inj.mp (h3.trans (by decide)))
          · exact c6 (Int32.toInt_inj.mp (h3.trans (by decide)))
          · exact c7 (Int32.toInt_inj.mp (h3.trans (by decide)))
          · exact c8 (Int32.toInt_inj.mp (h3.trans (by decide)))
          · exact c9 (Int32.toInt_inj.mp (h3.trans (by decide)))
          · exact c10 (Int32.toInt_inj.mp (h3.trans (by decide)))
          · exact c11 (Int32.toInt_inj.mp (h3.trans (by decide)))
          · exact c12 (Int32.toInt_inj.mp (h3.trans (by decide)))
          · exact c13 (Int32.toInt_inj.mp (h3.trans (by decide)))
          · exact c14 (Int32.toInt_inj.mp (h3.trans (by decide)))
          · exact c15 (Int32.toInt_inj.mp (h3.trans (by decide)))
          · exact c16 (Int32.toInt_inj.mp (h3.trans (by decide)))
          · exact c17 (Int32.toInt_inj.mp (h3.trans (by decide)))
          · exact c18 (Int32.toInt_inj.mp (h3.trans (by decide)))
          · exact c19 (Int32.toInt_inj.mp (h3.trans (by decide)))
          · exact c20 (Int32.toInt_inj.mp (h3.trans (by decide)))
          · exact c21 (Int32.toInt_inj.mp (h3.trans (by decide)))
          · exact c22 (Int32.toInt_inj.mp (h3.trans (by decide)))
          · exact c23 (Int32.toInt_inj.mp (h3.trans (by decide)))
          · exact c24 (Int32.toInt_inj.mp (h3.trans (by decide)))
          · exact c25 (Int32.toInt_inj.mp (h3.trans (by decide)))
          · exact c26 (Int32.toInt_inj.mp (h3.trans (by decide)))
          · exact c27 (Int32.toInt_inj.mp (h3.trans (by decide)))
          · exact c28 (Int32.toInt_inj.mp (h3.trans (by decide)))
          · exact c29 (Int32.toInt_inj.mp (h3.trans (by decide)))
          · exact c30 (Int32.toInt_inj.mp (h3.trans (by decide)))
          · exact c31 (Int32.toInt_inj.mp (h3.trans (by decide)))
          · exact c32 (Int32.toInt_inj.mp (h3.trans (by decide)))
          · exact c33 (Int32.toInt_inj.mp (h3.trans (by decide)))
          · exact c34 (Int32.toInt_inj.mp (h3.trans (by decide)))
        · refine W.widen (k := 364 + 3 * j + 3) (n := 5376 + 18 * j + 18) (by omega) (by omega) ?_
          exact kk S M f1 f2 ls H locs hR hP hD hS hl
  refine jNew (ci := 10) (fs := [.null, .null, .null, .null, .int 0, .int 0, .int 0, .int 0]) (Cn := RX8) (T := TX8) (N := 8) C ju_X8 tyX8 tyX8_ok jq_1_0 jq_1_1 jq_1_2 hP hD hS hA rfl (fun j hj => match j, hj with | 0, _ => rfl | 1, _ => rfl | 2, _ => rfl | 3, _ => rfl | 4, _ => rfl | 5, _ => rfl | 6, _ => rfl | 7, _ => rfl | k + 8, h => absurd h (by omega)) (Nat.le_of_ble_eq_true rfl) (Nat.le_of_ble_eq_true rfl) dL_law_0 dL_law_3 (fun q1 H hP hD hS => ?_)
  refine jIni (ws := []) C dL_law_4 (kc_X8_init l D G q1) jy_X8_init rfl jq_1_8 jq_1_9 ⟨rfl, rfl, Nat.le_of_ble_eq_true rfl, Nat.le_of_ble_eq_true rfl⟩ ⟨Nat.le_of_ble_eq_true rfl, Nat.le_of_ble_eq_true rfl⟩ hP hD hS hA hl (As := []) rfl (Nat.le_of_ble_eq_true rfl) (fun B H locs eB hP hD hS => ?_)
  rw [← eB]
  refine lv_astore_n (lv' := [(1, .ref (B 9 0)), (0, .ref b)]) hx hb dL_law_7 rfl hl (by decide) rfl (fun ls hl => ?_)
  refine jNew (ci := 11) (fs := [.int 0, .null, .int 0, .int 0, .int 0, .int 0, .int 0, .int 0, .int 0, .null, .int 0, .int 0, .int 0, .int 0, .null, .int 0]) (Cn := RX9) (T := TX9) (N := 16) C ju_X9 tyX9 tyX9_ok jq_1_3 jq_1_4 jq_1_5 hP hD hS hA rfl (fun j hj => match j, hj with | 0, _ => rfl | 1, _ => rfl | 2, _ => rfl | 3, _ => rfl | 4, _ => rfl | 5, _ => rfl | 6, _ => rfl | 7, _ => rfl | 8, _ => rfl | 9, _ => rfl | 10, _ => rfl | 11, _ => rfl | 12, _ => rfl | 13, _ => rfl | 14, _ => rfl | 15, _ => rfl | k + 16, h => absurd h (by omega)) (Nat.le_of_ble_eq_true rfl) (Nat.le_of_ble_eq_true rfl) dL_law_8 dL_law_11 (fun q2 H hP hD hS => ?_)
  refine jIni (ws := [] ++ wTS B G mT0) C dL_law_12 (kc_X9_init l D G q2) jy_X9_init rfl jq_5_21 jq_5_22 ⟨rfl, rfl, Nat.le_of_ble_eq_true rfl, Nat.le_of_ble_eq_true rfl⟩ ⟨Nat.le_of_ble_eq_true rfl, Nat.le_of_ble_eq_true rfl⟩ hP hD hS hA hl (As := []) rfl (Nat.le_of_ble_eq_true rfl) (fun a H locs ea hP hD hS => ?_)
  rw [← ea]
  refine lv_astore_n (lv' := [(2, .ref (a 0)), (1, .ref (B 9 0)), (0, .ref b)]) hx hb dL_law_15 rfl hl (by decide) rfl (fun ls hl => ?_)
  refine lv_iconst (v := 1) hx hb dL_law_16 (by decide) ?_
  refine va_newa (atype := .long) (N' := 1) (a0 := (1, .inr (.inl (fun _ => 0)))) hx hb (hts _ jq_1_6) rfl hK hP hD hS hA (fun _ => rfl) (by decide) (by decide) (Nat.le_of_ble_eq_true rfl) (Nat.le_of_ble_eq_true rfl) (Nat.le_of_ble_eq_true rfl) dL_law_17 (fun o1 cA H hK2 hP hD hS => ?_)
  obtain rfl : cA = G 3 := jCls hK (k := 3) rfl hK2 trivial
  clear hK2
  refine lv_astore_n (lv' := [(3, .ref o1), (2, .ref (a 0)), (1, .ref (B 9 0)), (0, .ref b)]) hx hb dL_law_19 rfl hl (by decide) rfl (fun ls hl => ?_)
  refine lv_iconst (v := 1) hx hb dL_law_20 (by decide) ?_
  refine va_newa (atype := .double) (N' := 1) (a0 := (1, .inr (.inr (.inr (.inl (fun _ => 0)))))) hx hb (hts _ jq_1_7) rfl hK hP hD hS hA (fun _ => rfl) (by decide) (by decide) (Nat.le_of_ble_eq_true rfl) (Nat.le_of_ble_eq_true rfl) (Nat.le_of_ble_eq_true rfl) dL_law_21 (fun o2 cA H hK2 hP hD hS => ?_)
  obtain rfl : cA = G 4 := jCls hK (k := 4) rfl hK2 trivial
  clear hK2
  refine lv_astore (lv' := [(4, .ref o2), (3, .ref o1), (2, .ref (a 0)), (1, .ref (B 9 0)), (0, .ref b)]) hx hb dL_law_23 hl (by decide) rfl (fun ls hl => ?_)
  refine lv_iconst (v := 0) hx hb dL_law_25 (by decide) ?_
  refine lv_istore (lv' := [(5, .int (nI (5 * 0))), (4, .ref o2), (3, .ref o1), (2, .ref (a 0)), (1, .ref (B 9 0)), (0, .ref b)]) hx hb dL_law_26 hl (by decide) rfl (fun ls hl => ?_)
  have hp := permZ (wM a G mM0) (wTS B G mT0) ((o1, .inl (G 3, 1, .inr (.inl (fun _ => (0 : Int64))))) : Nat × va_E) ((o2, .inl (G 4, 1, .inr (.inr (.inr (.inl (fun _ => (0 : UInt64))))))) : Nat × va_E)
  have hP : va_P D vwCl (lwW a B G o1 o2 mT0 mM0 (fun _ => 0) (fun _ => 0)) H := jSubP (fun x hx => hp.mem_iff.mpr hx) hP
  have hD : va_D A (lwW a B G o1 o2 mT0 mM0 (fun _ => 0) (fun _ => 0)) := jDnd.mpr ⟨(hp.map Prod.fst).nodup_iff.mp (jDnd.mp hD).1, fun x hx => (jDnd.mp hD).2 x (hp.mem_iff.mpr hx)⟩
  refine W.widen (k := 364 + 3 * 0) (n := 5376 + 18 * 0) (Nat.le_of_ble_eq_true rfl) (Nat.le_of_ble_eq_true rfl) ?_
  exact loop a B o1 o2 513 0 rfl mT0 mM0 (fun _ => 0) (fun _ => 0) ls H locs hR0 hP hD hS hl
