set_option maxHeartbeats 4000000 in
set_option maxRecDepth 100000 in
theorem law_walk {p : Program} {e : Env} {s : State} {m : MethodId} {below : List Frame} {meth : Method} {c : Code} (l : Launch) (hl0 : l.stackTraces = false) {b L : Nat} {xs : Nat → Int32} (hL : L ≤ 260) (N nf : Nat) (S1 S2 S3 Sf : CS) (v2 v3 v4 : Int32)
    (a10 : F_Y8_account N mT0 10 = some 40) (a11 : F_Y8_account N mT0 11 = some 60) (a12 : F_Y8_account N mT0 12 = some 80) (a7 : F_Y8_account N mT0 7 = some 6) (a8 : F_Y8_account N mT0 8 = some 20) (ap : F_X8_peak N mT0 = some 0)
    (h1 : bdA N L xs (2 + smV L xs 0 3) 0 mT0 = some S1) (h2 : bdB N L xs (2 + smV L xs 0 3) 10 0 S1 = some S2) (hnf : F_Y8_account N S2 1 = some (nI nf)) (hnf1 : nf < 1000) (h3 : bdC N L xs 4 0 S2 = some S3)
    (h4 : (nf = 0 ∧ S3 = Sf) ∨ (0 < nf ∧ ∃ S4 S5, bdD N L xs nf 6 0 S3 = some S4 ∧ bdE N L xs nf 6 0 S4 = some S5 ∧ bdF N L xs nf 5 0 S5 = some Sf))
    (e0 : F_Y8_account N Sf 0 = some v2) (e1 : F_Y8_account N Sf 1 = some v3) (e2 : F_Y8_account N Sf 2 = some v4) (hV : F_L_law N Sf (fun _ _ => 0) v2 v3 v4 = some 1)
    (hx : p.tables.exec = Jvm.exec) (hb : c.code = code) (hr : meth.sig.returnType = ret) (hml : c.maxLocals = 20) (hown : s.vm.findClass RL = some m.cls) (hts : ∀ w ∈ lw_tbl, w.before #[Value.ref b] s = true) (hX : va_X b L xs s s.heap) (hbl : b < s.heap.size) (hlocks : meth.locks = false) (hgv : (Jvm.Cond.and given_1 narrow_1).before #[Value.ref b] s = true)
    {Q : State → Prop} (hend : ∀ (H : Heap) (locs : List Loc) (ls : Array Slot), (∀ q ∈ locs, s.heap.size ≤ q.base) → W p l e room_1 s m #[Value.ref b] below meth c H locs 470 3491 Q (F0 m 1127 ls [.int 1])) :
    W p l e room_1 s m #[Value.ref b] below meth c s.heap [] 0 0 Q (entryFrame m ([Value.ref b] : List Value).toArray 20) := by
  have hs : ∀ w ∈ FL, w.before #[Value.ref b] s = true := flat_of_before _ hgv
  obtain ⟨D, G, hK0⟩ := law_K hts
  have hZ := law_Z (fun _ => 0) (fun _ => 0) hts hs
  have hC := law_C hs
  have hov : (Cond.arrayOver (.array .int)).before #[Value.ref b] s = true := hts _ (ji_tbl _ (List.mem_of_getElem? (i := 12) rfl))
  have C : Cx p s m #[Value.ref b] meth c cL_law 20 RL ret D G := ⟨hx, hb, hr, hml, fun w h => hts w (jw_tbl w h), hown, hlocks, hK0⟩
  have hK := hK0.1
  have hts : ∀ w ∈ jw, w.before #[Value.ref b] s = true := C.2.2.2.2.1
  generalize hAe : (fun q : Nat => s.heap.size ≤ q) = A at hZ
  have hA : ∀ q : Nat, s.heap.size ≤ q → A q := fun q h => by rw [← hAe]; exact h
  have hbA : ¬ A b := by rw [← hAe]; exact Nat.not_le.mpr hbl
  have hend2 : ∀ (H : Heap) (locs : List Loc) (ls : Array Slot), va_S A s.heap H locs → W p l e room_1 s m #[Value.ref b] below meth c H locs 470 3491 Q (F0 m 1127 ls [.int 1]) := fun H locs ls h => hend H locs ls (fun q hq => by have := h.2.2 q hq; rw [← hAe] at this; exact this)
  have hS : va_S A s.heap s.heap [] := va_S.rf
  have hP : va_P D vwCl [] s.heap := jE
  have hD : va_D A [] := ⟨fun i j x y hi => by simp at hi, fun k q h => by simp at h⟩
  have hl := lv_entry ([.ref b]) (n := 20) (Nat.le_of_ble_eq_true rfl)
  rw [lg_entry_eq]
  generalize (lg_sl ([.ref b]) ++ List.replicate (20 - (lg_sl ([.ref b])).length) Slot.unset).toArray = ls at hl ⊢
  have hl : lv_has ls 20 [(0, .ref b)] := hl
  refine jNew (ci := 10) (fs := [.null, .null, .null, .null, .int 0, .int 0, .int 0, .int 0]) (Cn := RX8) (T := TX8) (N := 8) C ju_X8 tyX8 tyX8_ok jq_1_0 jq_1_1 jq_1_2 hP hD hS hA rfl (fun j hj => match j, hj with | 0, _ => rfl | 1, _ => rfl | 2, _ => rfl | 3, _ => rfl | 4, _ => rfl | 5, _ => rfl | 6, _ => rfl | 7, _ => rfl | k + 8, h => absurd h (by omega)) (Nat.le_of_ble_eq_true rfl) (Nat.le_of_ble_eq_true rfl) dL_law_0 dL_law_3 (fun q1 H hP hD hS => ?_)
  refine jIni (ws := []) C dL_law_4 (kc_X8_init l D G q1) jy_X8_init rfl jq_1_10 jq_1_11 ⟨rfl, rfl, Nat.le_of_ble_eq_true rfl, Nat.le_of_ble_eq_true rfl⟩ ⟨Nat.le_of_ble_eq_true rfl, Nat.le_of_ble_eq_true rfl⟩ hP hD hS hA hl (As := []) rfl (Nat.le_of_ble_eq_true rfl) (fun B H locs eB hP hD hS => ?_)
  rw [← eB]
  refine lv_astore_n (lv' := [(1, .ref (B 9 0)), (0, .ref b)]) hx hb dL_law_7 rfl hl (by decide) rfl (fun ls hl => ?_)
  have hP : va_P D vwCl (wTS B G mT0) H := hP
  have hD : va_D A (wTS B G mT0) := hD
  refine lv_aload_n hx hb dL_law_8 rfl (lv_at hl 0 rfl) ?_
  refine lv_bipush (v := 10) hx hb dL_law_9 (by decide) ?_
  refine jVpI C dL_law_11 (k_Y8_account l D G B N mT0 10 40 a10) jy_X8_account jq_5_22 jq_5_23 jq_6_0 ⟨rfl, rfl, Nat.le_of_ble_eq_true rfl, Nat.le_of_ble_eq_true rfl⟩ ⟨Nat.le_of_ble_eq_true rfl, Nat.le_of_ble_eq_true rfl⟩ hP (ci := 10) (iw := 0) rfl rfl rfl hl (As := [.int 10]) (rest := []) rfl (Nat.le_of_ble_eq_true rfl) ?_
  refine lv_bipush (v := 40) hx hb dL_law_14 (by decide) ?_
  refine lv_icmp_ne (tgt := 70) hx hb dL_law_16 (by decide) (fun h => absurd rfl h) (fun _ => ?_)
  refine lv_aload_n hx hb dL_law_19 rfl (lv_at hl 0 rfl) ?_
  refine lv_bipush (v := 11) hx hb dL_law_20 (by decide) ?_
  refine jVpI C dL_law_22 (k_Y8_account l D G B N mT0 11 60 a11) jy_X8_account jq_5_22 jq_5_23 jq_6_0 ⟨rfl, rfl, Nat.le_of_ble_eq_true rfl, Nat.le_of_ble_eq_true rfl⟩ ⟨Nat.le_of_ble_eq_true rfl, Nat.le_of_ble_eq_true rfl⟩ hP (ci := 10) (iw := 0) rfl rfl rfl hl (As := [.int 11]) (rest := []) rfl (Nat.le_of_ble_eq_true rfl) ?_
  refine lv_bipush (v := 60) hx hb dL_law_25 (by decide) ?_
  refine lv_icmp_ne (tgt := 70) hx hb dL_law_27 (by decide) (fun h => absurd rfl h) (fun _ => ?_)
  refine lv_aload_n hx hb dL_law_30 rfl (lv_at hl 0 rfl) ?_
  refine lv_bipush (v := 12) hx hb dL_law_31 (by decide) ?_
  refine jVpI C dL_law_33 (k_Y8_account l D G B N mT0 12 80 a12) jy_X8_account jq_5_22 jq_5_23 jq_6_0 ⟨rfl, rfl, Nat.le_of_ble_eq_true rfl, Nat.le_of_ble_eq_true rfl⟩ ⟨Nat.le_of_ble_eq_true rfl, Nat.le_of_ble_eq_true rfl⟩ hP (ci := 10) (iw := 0) rfl rfl rfl hl (As := [.int 12]) (rest := []) rfl (Nat.le_of_ble_eq_true rfl) ?_
  refine lv_bipush (v := 80) hx hb dL_law_36 (by decide) ?_
  refine lv_icmp_ne (tgt := 70) hx hb dL_law_38 (by decide) (fun h => absurd rfl h) (fun _ => ?_)
  refine lv_aload_n hx hb dL_law_41 rfl (lv_at hl 0 rfl) ?_
  refine lv_bipush (v := 7) hx hb dL_law_42 (by decide) ?_
  refine jVpI C dL_law_44 (k_Y8_account l D G B N mT0 7 6 a7) jy_X8_account jq_5_22 jq_5_23 jq_6_0 ⟨rfl, rfl, Nat.le_of_ble_eq_true rfl, Nat.le_of_ble_eq_true rfl⟩ ⟨Nat.le_of_ble_eq_true rfl, Nat.le_of_ble_eq_true rfl⟩ hP (ci := 10) (iw := 0) rfl rfl rfl hl (As := [.int 7]) (rest := []) rfl (Nat.le_of_ble_eq_true rfl) ?_
  refine lv_bipush (v := 6) hx hb dL_law_47 (by decide) ?_
  refine lv_icmp_ne (tgt := 70) hx hb dL_law_49 (by decide) (fun h => absurd rfl h) (fun _ => ?_)
  refine lv_aload_n hx hb dL_law_52 rfl (lv_at hl 0 rfl) ?_
  refine lv_bipush (v := 8) hx hb dL_law_53 (by decide) ?_
  refine jVpI C dL_law_55 (k_Y8_account l D G B N mT0 8 20 a8) jy_X8_account jq_5_22 jq_5_23 jq_6_0 ⟨rfl, rfl, Nat.le_of_ble_eq_true rfl, Nat.le_of_ble_eq_true rfl⟩ ⟨Nat.le_of_ble_eq_true rfl, Nat.le_of_ble_eq_true rfl⟩ hP (ci := 10) (iw := 0) rfl rfl rfl hl (As := [.int 8]) (rest := []) rfl (Nat.le_of_ble_eq_true rfl) ?_
  refine lv_bipush (v := 20) hx hb dL_law_58 (by decide) ?_
  refine lv_icmp_ne (tgt := 70) hx hb dL_law_60 (by decide) (fun h => absurd rfl h) (fun _ => ?_)
  refine lv_aload_n hx hb dL_law_63 rfl (lv_at hl 0 rfl) ?_
  refine jVpI C dL_law_64 (k_X8_peak l D G B N mT0  0 ap) jy_X8_peak jq_7_6 jq_7_7 jq_7_8 ⟨rfl, rfl, Nat.le_of_ble_eq_true rfl, Nat.le_of_ble_eq_true rfl⟩ ⟨Nat.le_of_ble_eq_true rfl, Nat.le_of_ble_eq_true rfl⟩ hP (ci := 10) (iw := 0) rfl rfl rfl hl (As := []) (rest := []) rfl (Nat.le_of_ble_eq_true rfl) ?_
  refine lv_if_eq (tgt := 72) hx hb dL_law_67 (by decide) (fun _ => ?_) (fun h => absurd rfl h)
  refine lv_aload_n hx hb dL_law_72 rfl (lv_at hl 0 rfl) ?_
  refine lv_aload_n hx hb dL_law_73 rfl (lv_at hl 1 rfl) ?_
  refine jSb C dL_law_74 (kb_build l hl0 D G B (fun _ => 0) (fun _ => 0) b L xs hL N nf mT0 S1 S2 S3 Sf h1 h2 hnf hnf1 h3 h4) jy_L_build jq_8_0 jq_8_1 ⟨Nat.le_of_ble_eq_true rfl, Nat.le_of_ble_eq_true rfl⟩ ⟨Nat.le_of_ble_eq_true rfl, Nat.le_of_ble_eq_true rfl⟩ hZ hC hX hbl hbA hP hD hA hS hl (As := [.ref (B 9 0), .ref b]) (rest := []) rfl (Nat.le_of_ble_eq_true rfl) (fun H1 locs hP2 hS => ?_)
  have hP := hP2
  have hD : va_D A (wTS B G Sf) := jD (w := wTS B G mT0) (dTS _ _) hD
  refine lv_aload_n hx hb dL_law_77 rfl (lv_at hl 0 rfl) ?_
  refine lv_iconst (v := 0) hx hb dL_law_78 (by decide) ?_
  refine jVpI C dL_law_79 (k_Y8_account l D G B N Sf 0 v2 e0) jy_X8_account jq_5_22 jq_5_23 jq_6_0 ⟨rfl, rfl, Nat.le_of_ble_eq_true rfl, Nat.le_of_ble_eq_true rfl⟩ ⟨Nat.le_of_ble_eq_true rfl, Nat.le_of_ble_eq_true rfl⟩ hP (ci := 10) (iw := 0) rfl rfl rfl hl (As := [.int 0]) (rest := []) rfl (Nat.le_of_ble_eq_true rfl) ?_
  refine lv_istore_n (lv' := [(2, .int v2), (1, .ref (B 9 0)), (0, .ref b)]) hx hb dL_law_82 rfl hl (by decide) rfl (fun ls hl => ?_)
  refine lv_aload_n hx hb dL_law_83 rfl (lv_at hl 1 rfl) ?_
  refine lv_iconst (v := 1) hx hb dL_law_84 (by decide) ?_
  refine jVpI C dL_law_85 (k_Y8_account l D G B N Sf 1 v3 e1) jy_X8_account jq_5_22 jq_5_23 jq_6_0 ⟨rfl, rfl, Nat.le_of_ble_eq_true rfl, Nat.le_of_ble_eq_true rfl⟩ ⟨Nat.le_of_ble_eq_true rfl, Nat.le_of_ble_eq_true rfl⟩ hP (ci := 10) (iw := 0) rfl rfl rfl hl (As := [.int 1]) (rest := []) rfl (Nat.le_of_ble_eq_true rfl) ?_
  refine lv_istore_n (lv' := [(3, .int v3), (2, .int v2), (1, .ref (B 9 0)), (0, .ref b)]) hx hb dL_law_88 rfl hl (by decide) rfl (fun ls hl => ?_)
  refine lv_aload_n hx hb dL_law_89 rfl (lv_at hl 2 rfl) ?_
  refine lv_iconst (v := 2) hx hb dL_law_90 (by decide) ?_
  refine jVpI C dL_law_91 (k_Y8_account l D G B N Sf 2 v4 e2) jy_X8_account jq_5_22 jq_5_23 jq_6_0 ⟨rfl, rfl, Nat.le_of_ble_eq_true rfl, Nat.le_of_ble_eq_true rfl⟩ ⟨Nat.le_of_ble_eq_true rfl, Nat.le_of_ble_eq_true rfl⟩ hP (ci := 10) (iw := 0) rfl rfl rfl hl (As := [.int 2]) (rest := []) rfl (Nat.le_of_ble_eq_true rfl) ?_
  refine lv_istore (lv' := [(4, .int v4), (3, .int v3), (2, .int v2), (1, .ref (B 9 0)), (0, .ref b)]) hx hb dL_law_94 hl (by decide) rfl (fun ls hl => ?_)
  refine lv_iconst (v := 0) hx hb dL_law_96 (by decide) ?_
  refine lv_istore (lv' := [(5, .int 0), (4, .int v4), (3, .int v3), (2, .int v2), (1, .ref (B 9 0)), (0, .ref b)]) hx hb dL_law_97 hl (by decide) rfl (fun ls hl => ?_)
  refine lv_iconst (v := 0) hx hb dL_law_99 (by decide) ?_
  refine lv_istore (lv' := [(6, .int 0), (5, .int 0), (4, .int v4), (3, .int v3), (2, .int v2), (1, .ref (B 9 0)), (0, .ref b)]) hx hb dL_law_100 hl (by decide) rfl (fun ls hl => ?_)
  refine lv_iconst (v := 0) hx hb dL_law_102 (by decide) ?_
  refine lv_istore (lv' := [(7, .int 0), (6, .int 0), (5, .int 0), (4, .int v4), (3, .int v3), (2, .int v2), (1, .ref (B 9 0)), (0, .ref b)]) hx hb dL_law_103 hl (by decide) rfl (fun ls hl => ?_)
  refine lv_iconst (v := 0) hx hb dL_law_105 (by decide) ?_
  refine lv_istore (lv' := [(8, .int 0), (7, .int 0), (6, .int 0), (5, .int 0), (4, .int v4), (3, .int v3), (2, .int v2), (1, .ref (B 9 0)), (0, .ref b)]) hx hb dL_law_106 hl (by decide) rfl (fun ls hl => ?_)
  refine lv_iconst (v := 0) hx hb dL_law_108 (by decide) ?_
  refine lv_istore (lv' := [(9, .int 0), (8, .int 0), (7, .int 0), (6, .int 0), (5, .int 0), (4, .int v4), (3, .int v3), (2, .int v2), (1, .ref (B 9 0)), (0, .ref b)]) hx hb dL_law_109 hl (by decide) rfl (fun ls hl => ?_)
  refine lv_iconst (v := 0) hx hb dL_law_111 (by decide) ?_
  refine lv_istore (lv' := [(10, .int 0), (9, .int 0), (8, .int 0), (7, .int 0), (6, .int 0), (5, .int 0), (4, .int v4), (3, .int v3), (2, .int v2), (1, .ref (B 9 0)), (0, .ref b)]) hx hb dL_law_112 hl (by decide) rfl (fun ls hl => ?_)
  refine lv_bipush (v := 30) hx hb dL_law_114 (by decide) ?_
  refine lv_iconst (v := 3) hx hb dL_law_116 (by decide) ?_
  refine tNewM C jq_1_3 hov hP hD hS hA (Nat.le_of_ble_eq_true rfl) (Nat.le_of_ble_eq_true rfl) dL_law_117 (fun tA H locs hP hD hS => ?_)
  refine lv_astore (lv' := [(11, .ref (tA 0)), (10, .int 0), (9, .int 0), (8, .int 0), (7, .int 0), (6, .int 0), (5, .int 0), (4, .int v4), (3, .int v3), (2, .int v2), (1, .ref (B 9 0)), (0, .ref b)]) hx hb dL_law_121 hl (by decide) rfl (fun ls hl => ?_)
  refine W.eq (g2 := F0 m 123 ls []) rfl ?_
  refine W.widen (k := 470) (n := 3491) (Nat.le_of_ble_eq_true rfl) (Nat.le_of_ble_eq_true rfl) ?_
  exact k_L_law C hA N Sf B tA 1 hend2 (fun _ _ => 0) v2 v3 v4 ls H locs hP hD hS (lv_sub hl [0, 1, 2, 3, 4, 5, 6, 7, 8, 9, 10] rfl) hV
