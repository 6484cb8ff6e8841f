def jE_load (Rl : (Nat → Nat → Nat → Int32) → (Nat → Nat → Int32) → Prop) : Prop := ∀ (S : Nat → Nat → Nat → Int32) (M : Nat → Nat → Int32) (v1 : Int32), Rl S M → ∃ (N1 : Nat) (rc : _) (N2 : Nat) (rm : _), F_X8_load N1 S v1 = some rc ∧ F_X9_load N2 M v1 = some rm ∧ (rc.1 = 0 ∨ rc.1 = 2) ∧ rm.2 0 0 = hk_load rc.1 ∧ (rc.1 = 0 → rc.2.1 = rm.1) ∧ Rl rc.2.2 rm.2
theorem hy_load : hY yL_load cL_load 4 [(0, 9, 12, 15)] 3 := ⟨by decide +kernel, jq_30_17, jq_6_7⟩
set_option maxHeartbeats 4000000 in
set_option maxRecDepth 100000 in
theorem lc_load {p : Program} {l : Launch} {e : Env} {s : State} {m : MethodId} {args : Array Value} {below : List Frame} {meth : Method} {c : Code} {Q : State → Prop} {D : va_G} {G : Nat → ClassId} {A : Nat → Prop} {ks va : Nat → Nat} {b L i : Nat} {xs : Nat → Int32} {a : Nat → Nat} {B : Nat → Nat → Nat} {o1 o2 : Nat} {Rl : (Nat → Nat → Nat → Int32) → (Nat → Nat → Int32) → Prop} {ret : Option FieldType}
    (C : Cx p s m args meth c cL_law 9 RL ret D G) (hl0 : l.stackTraces = false) (hZ : jZ ks va A s s.heap) (hC : jC s) (hA : ∀ q : Nat, s.heap.size ≤ q → A q) (hX : va_X b L xs s s.heap) (hbl : b < s.heap.size) (hbA : ¬ A b) (h0 : vp_in (nI i) L) (h1 : vp_in (nI i + 1) L) (h2 : vp_in (nI i + 2) L) (h3 : vp_in (nI i + 3) L) (h4 : vp_in (nI i + 4) L) (hE : jE_load Rl) : ∀ (S : Nat → Nat → Nat → Int32) (M : Nat → Nat → Int32) (f1 : Nat → Int64) (f2 : Nat → UInt64) (ls : Array Slot) (H : Heap) (locs : List Loc) (cells slots : Nat), cells + 3 ≤ 603072 → slots + 18 ≤ 7174250 → Rl S M → va_P D vwCl (lwW a B G o1 o2 S M f1 f2) H → va_D A (lwW a B G o1 o2 S M f1 f2) → va_S A s.heap H locs → lv_has ls 9 [(5, .int (nI i)), (4, .ref o2), (3, .ref o1), (2, .ref (a 0)), (1, .ref (B 9 0)), (0, .ref b)] → (∀ (S : Nat → Nat → Nat → Int32) (M : Nat → Nat → Int32) (f1 : Nat → Int64) (f2 : Nat → UInt64) (ls : Array Slot) (H : Heap) (locs : List Loc), Rl S M → va_P D vwCl (lwW a B G o1 o2 S M f1 f2) H → va_D A (lwW a B G o1 o2 S M f1 f2) → va_S A s.heap H locs → lv_has ls 9 [(5, .int (nI i)), (4, .ref o2), (3, .ref o1), (2, .ref (a 0)), (1, .ref (B 9 0)), (0, .ref b)] → W p l e room_1 s m args below meth c H locs (cells + 3) (slots + 18) Q (F0 m 2403 ls [])) → W p l e room_1 s m args below meth c H locs cells slots Q (F0 m 1016 ls []) := by
  intro S M f1 f2 ls H locs cells slots hcc hcs hR hP hD hS hl kk
  have hD0 := hD
  obtain ⟨hx, hb, hr, hml, hts, hown, hlocks, hK0⟩ := id C
  have hK := hK0.1
  refine lv_aload_n hx hb dL_law_1016 rfl (lv_at hl 4 rfl) ?_
  refine lv_aload_n hx hb dL_law_1017 rfl (lv_at hl 5 rfl) ?_
  refine lv_iload hx hb dL_law_1018 (lv_at hl 0 rfl) ?_
  refine lv_iconst (v := 1) hx hb dL_law_1020 (by decide) ?_
  refine lv_iadd hx hb dL_law_1021 ?_
  refine va_sld hx hb hX hbl hbA hS h1 dL_law_1022 ?_
  refine lv_aload_n hx hb dL_law_1023 rfl (lv_at hl 2 rfl) ?_
  obtain ⟨N1, rc, N2, rm, e1, e2, hk, ht, hv, hR2⟩ := hE S M (xs (nI i + 1).toNatClampNeg) hR
  rw [lwW_1] at hP hD
  refine jSh C dL_law_1024 (kh_load l hl0 D G B ks va o1 f1 N1 S (xs (nI i + 1).toNatClampNeg) rc e1 hk) hy_load jq_30_15 jq_30_16 ⟨Nat.le_of_ble_eq_true rfl, Nat.le_of_ble_eq_true rfl⟩ ⟨by show cells + 1 ≤ 603072; omega, by show slots + 6 ≤ 7174250; omega⟩ hZ hC (jMidP (pre := wM a G M) (mid := wTS B G S ++ [((o1, .inl (G 3, 1, .inr (.inl f1))) : Nat × va_E)]) (post := [((o2, .inl (G 4, 1, .inr (.inr (.inr (.inl f2))))) : Nat × va_E)]) hP) (jMidD (pre := wM a G M) (mid := wTS B G S ++ [((o1, .inl (G 3, 1, .inr (.inl f1))) : Nat × va_E)]) (post := [((o2, .inl (G 4, 1, .inr (.inr (.inr (.inl f2))))) : Nat × va_E)]) hD) hA hS hl (As := [.ref (B 9 0), .int (xs (nI i + 1).toNatClampNeg), .ref o1]) (rest := []) rfl (Nat.le_of_ble_eq_true rfl) (fun H1 locs hQ hz hkp hS => ?_)
  have hP := jMidJoin (pre := wM a G M) (mid := wTS B G S ++ [((o1, .inl (G 3, 1, .inr (.inl f1))) : Nat × va_E)]) (mid' := wTS B G rc.2.2 ++ [((o1, .inl (G 3, 1, .inr (.inl (hO rc.1 f1 rc.2.1)))) : Nat × va_E)]) (post := [((o2, .inl (G 4, 1, .inr (.inr (.inr (.inl f2))))) : Nat × va_E)]) hP hD hkp hQ
  have hP : va_P D vwCl (lwW a B G o1 o2 rc.2.2 M (hO rc.1 f1 rc.2.1) f2) H1 := by rw [lwW_1]; exact hP
  have hD : va_D A (lwW a B G o1 o2 rc.2.2 M (hO rc.1 f1 rc.2.1) f2) := lwD hD0
  clear hQ hz hkp
  generalize H1 = H at hP hS ⊢
  refine W.widen (k := cells + 3) (n := slots + 18) (show cells + 1 ≤ cells + 3 by omega) (show slots + 6 ≤ slots + 18 by omega) ?_
  refine lv_istore (lv' := [(6, .int (hk_load rc.1)), (5, .int (nI i)), (4, .ref o2), (3, .ref o1), (2, .ref (a 0)), (1, .ref (B 9 0)), (0, .ref b)]) hx hb dL_law_1027 hl (by decide) rfl (fun ls hl => ?_)
  refine lv_aload_n hx hb dL_law_1029 rfl (lv_at hl 4 rfl) ?_
  refine lv_aload_n hx hb dL_law_1030 rfl (lv_at hl 6 rfl) ?_
  refine lv_iload hx hb dL_law_1031 (lv_at hl 1 rfl) ?_
  refine lv_iconst (v := 1) hx hb dL_law_1033 (by decide) ?_
  refine lv_iadd hx hb dL_law_1034 ?_
  refine va_sld hx hb hX hbl hbA hS h1 dL_law_1035 ?_
  refine jVmI C dL_law_1036 (k_X9_load l D G a N2 M (xs (nI i + 1).toNatClampNeg) rm e2) jy_X9_load jq_30_23 jq_31_0 jq_31_1 ⟨rfl, rfl, Nat.le_of_ble_eq_true rfl, Nat.le_of_ble_eq_true rfl⟩ ⟨by show cells + 3 ≤ 603072; omega, by show slots + 18 ≤ 7174250; omega⟩ (jMidP (pre := []) (mid := wM a G M) (post := wTS B G rc.2.2 ++ ([((o1, .inl (G 3, 1, .inr (.inl (hO rc.1 f1 rc.2.1)))) : Nat × va_E)] ++ [((o2, .inl (G 4, 1, .inr (.inr (.inr (.inl f2))))) : Nat × va_E)])) hP) (jMidD (pre := []) (mid := wM a G M) (post := wTS B G rc.2.2 ++ ([((o1, .inl (G 3, 1, .inr (.inl (hO rc.1 f1 rc.2.1)))) : Nat × va_E)] ++ [((o2, .inl (G 4, 1, .inr (.inr (.inr (.inl f2))))) : Nat × va_E)])) hD) hA hS (ci := 11) (iw := 0) rfl rfl rfl hl (As := [.int (xs (nI i + 1).toNatClampNeg)]) (rest := []) rfl (Nat.le_of_ble_eq_true rfl) (fun H1 locs hQ hz hkp hS => ?_)
  have hP : va_P D vwCl (lwW a B G o1 o2 rc.2.2 rm.2 (hO rc.1 f1 rc.2.1) f2) H1 := jMidJoin (pre := []) (mid := wM a G M) (mid' := wM a G rm.2) (post := wTS B G rc.2.2 ++ ([((o1, .inl (G 3, 1, .inr (.inl (hO rc.1 f1 rc.2.1)))) : Nat × va_E)] ++ [((o2, .inl (G 4, 1, .inr (.inr (.inr (.inl f2))))) : Nat × va_E)])) hP hD hkp hQ
  have hD : va_D A (lwW a B G o1 o2 rc.2.2 rm.2 (hO rc.1 f1 rc.2.1) f2) := lwD hD0
  clear hQ hz hkp
  generalize H1 = H at hP hS ⊢
  refine lv_istore (lv' := [(7, .int rm.1), (6, .int (hk_load rc.1)), (5, .int (nI i)), (4, .ref o2), (3, .ref o1), (2, .ref (a 0)), (1, .ref (B 9 0)), (0, .ref b)]) hx hb dL_law_1039 hl (by decide) rfl (fun ls hl => ?_)
  refine lv_aload_n hx hb dL_law_1041 rfl (lv_at hl 5 rfl) ?_
  refine jVpI C dL_law_1042 (k_X9_thrown l D G a N2 rm.2 (rm.2 0 0) rfl) jy_X9_thrown jq_15_8 jq_15_9 jq_15_10 ⟨rfl, rfl, Nat.le_of_ble_eq_true rfl, Nat.le_of_ble_eq_true rfl⟩ ⟨by show cells + 3 ≤ 603072; omega, by show slots + 18 ≤ 7174250; omega⟩ (jMidP (pre := []) (mid := wM a G rm.2) (post := wTS B G rc.2.2 ++ ([((o1, .inl (G 3, 1, .inr (.inl (hO rc.1 f1 rc.2.1)))) : Nat × va_E)] ++ [((o2, .inl (G 4, 1, .inr (.inr (.inr (.inl f2))))) : Nat × va_E)])) hP) (ci := 11) (iw := 0) rfl rfl rfl hl (As := []) (rest := []) rfl (Nat.le_of_ble_eq_true rfl) ?_
  refine lv_iload hx hb dL_law_1045 (lv_at hl 1 rfl) ?_
  refine lv_icmp_eq (tgt := 1052) hx hb dL_law_1047 (by decide) (fun _ => ?_) (fun h => absurd ht h)
  refine lv_iload hx hb dL_law_1052 (lv_at hl 1 rfl) ?_
  refine lv_if_ne (tgt := 1069) hx hb dL_law_1054 (by decide) (fun _ => ?_) (fun hz0 => ?_)
  · refine lv_goto (tgt := 2403) hx hb dL_law_1069 (by decide) ?_
    exact kk rc.2.2 rm.2 (hO rc.1 f1 rc.2.1) f2 ls H locs hR2 hP hD hS (lv_sub hl [2, 3, 4, 5, 6, 7] rfl)
  · have hk0 : rc.1 = 0 := by
      rcases hk with hk | hk
      · exact hk
      · rw [hk] at hz0; exact absurd hz0 (by decide)
    refine lv_aload_n hx hb dL_law_1057 rfl (lv_at hl 4 rfl) ?_
    refine lv_iconst (v := 0) hx hb dL_law_1058 (by decide) ?_
    rw [lwW_1] at hP
    refine va_lald (n := 1) hx hb hK hP ((wM a G rm.2).length + (wTS B G rc.2.2).length) 3 (jAt1 _ _ _ _) rfl (inb_of (by decide)) dL_law_1059 ?_
    rw [← lwW_1] at hP
    refine lv_iload hx hb dL_law_1060 (lv_at hl 0 rfl) ?_
    refine lv_i2l hx hb dL_law_1062 rfl ?_
    refine W.lcmp hx hb dL_law_1063 ?_
    have hzz : lg_cmp ((hO rc.1 f1 rc.2.1) (0 : Int32).toNatClampNeg) rm.1.toInt64 = 0 := lgc (by unfold hO; rw [if_pos hk0, hv hk0]; rfl)
    refine lv_if_eq (tgt := 1069) hx hb dL_law_1064 (by decide) (fun _ => ?_) (fun h => absurd hzz h)
    refine lv_goto (tgt := 2403) hx hb dL_law_1069 (by decide) ?_
    exact kk rc.2.2 rm.2 (hO rc.1 f1 rc.2.1) f2 ls H locs hR2 hP hD hS (lv_sub hl [2, 3, 4, 5, 6, 7] rfl)
def jE_peak (Rl : (Nat → Nat → Nat → Int32) → (Nat → Nat → Int32) → Prop) : Prop := ∀ (S : Nat → Nat → Nat → Int32) (M : Nat → Nat → Int32), Rl S M → ∃ (N1 : Nat) (rc : _) (N2 : Nat) (rm : _), F_X8_peak N1 S = some rc ∧ F_X9_peak N2 M = some rm ∧ rc = rm.1 ∧ Rl S rm.2
set_option maxHeartbeats 4000000 in
set_option maxRecDepth 100000 in
theorem lc_peak {p : Program} {l : Launch} {e : Env} {s : State} {m : MethodId} {args : Array Value} {below : List Frame} {meth : Method} {c : Code} {Q : State → Prop} {D : va_G} {G : Nat → ClassId} {A : Nat → Prop} {ks va : Nat → Nat} {b L i : Nat} {xs : Nat → Int32} {a : Nat → Nat} {B : Nat → Nat → Nat} {o1 o2 : Nat} {Rl : (Nat → Nat → Nat → Int32) → (Nat → Nat → Int32) → Prop} {ret : Option FieldType}
    (C : Cx p s m args meth c cL_law 9 RL ret D G) (hl0 : l.stackTraces = false) (hZ : jZ ks va A s s.heap) (hC : jC s) (hA : ∀ q : Nat, s.heap.size ≤ q → A q) (hX : va_X b L xs s s.heap) (hbl : b < s.heap.size) (hbA : ¬ A b) (h0 : vp_in (nI i) L) (h1 : vp_in (nI i + 1) L) (h2 : vp_in (nI i + 2) L) (h3 : vp_in (nI i + 3) L) (h4 : vp_in (nI i + 4) L) (hE : jE_peak Rl) : ∀ (S : Nat → Nat → Nat → Int32) (M : Nat → Nat → Int32) (f1 : Nat → Int64) (f2 : Nat → UInt64) (ls : Array Slot) (H : Heap) (locs : List Loc) (cells slots : Nat), cells + 3 ≤ 603072 → slots + 18 ≤ 7174250 → Rl S M → va_P D vwCl (lwW a B G o1 o2 S M f1 f2) H → va_D A (lwW a B G o1 o2 S M f1 f2) → va_S A s.heap H locs → lv_has ls 9 [(5, .int (nI i)), (4, .ref o2), (3, .ref o1), (2, .ref (a 0)), (1, .ref (B 9 0)), (0, .ref b)] → (∀ (S : Nat → Nat → Nat → Int32) (M : Nat → Nat → Int32) (f1 : Nat → Int64) (f2 : Nat → UInt64) (ls : Array Slot) (H : Heap) (locs : List Loc), Rl S M → va_P D vwCl (lwW a B G o1 o2 S M f1 f2) H → va_D A (lwW a B G o1 o2 S M f1 f2) → va_S A s.heap H locs → lv_has ls 9 [(5, .int (nI i)), (4, .ref o2), (3, .ref o1), (2, .ref (a 0)), (1, .ref (B 9 0)), (0, .ref b)] → W p l e room_1 s m args below meth c H locs (cells + 3) (slots + 18) Q (F0 m 2403 ls [])) → W p l e room_1 s m args below meth c H locs cells slots Q (F0 m 1072 ls []) := by
  intro S M f1 f2 ls H locs cells slots hcc hcs hR hP hD hS hl kk
  have hD0 := hD
  obtain ⟨hx, hb, hr, hml, hts, hown, hlocks, hK0⟩ := id C
  have hK := hK0.1
  refine lv_aload_n hx hb dL_law_1072 rfl (lv_at hl 4 rfl) ?_
  obtain ⟨N1, rc, N2, rm, e1, e2, hv, hR2⟩ := hE S M hR
  refine W.widen (k := cells + 3) (n := slots + 18) (by omega) (by omega) ?_
  refine jVpI C dL_law_1073 (k_X8_peak l D G B N1 S rc e1) jy_X8_peak jq_31_3 jq_31_4 jq_31_5 ⟨rfl, rfl, Nat.le_of_ble_eq_true rfl, Nat.le_of_ble_eq_true rfl⟩ ⟨by show cells + 3 ≤ 603072; omega, by show slots + 18 ≤ 7174250; omega⟩ (jMidP (pre := wM a G M) (mid := wTS B G S) (post := ([((o1, .inl (G 3, 1, .inr (.inl f1))) : Nat × va_E)] ++ [((o2, .inl (G 4, 1, .inr (.inr (.inr (.inl f2))))) : Nat × va_E)])) hP) (ci := 10) (iw := 0) rfl rfl rfl hl (As := []) (rest := []) rfl (Nat.le_of_ble_eq_true rfl) ?_
  refine lv_aload_n hx hb dL_law_1076 rfl (lv_at hl 3 rfl) ?_
  refine jVmI C dL_law_1077 (k_X9_peak l D G a N2 M  rm e2) jy_X9_peak jq_31_8 jq_31_9 jq_31_10 ⟨rfl, rfl, Nat.le_of_ble_eq_true rfl, Nat.le_of_ble_eq_true rfl⟩ ⟨by show cells + 3 ≤ 603072; omega, by show slots + 18 ≤ 7174250; omega⟩ (jMidP (pre := []) (mid := wM a G M) (post := wTS B G S ++ ([((o1, .inl (G 3, 1, .inr (.inl f1))) : Nat × va_E)] ++ [((o2, .inl (G 4, 1, .inr (.inr (.inr (.inl f2))))) : Nat × va_E)])) hP) (jMidD (pre := []) (mid := wM a G M) (post := wTS B G S ++ ([((o1, .inl (G 3, 1, .inr (.inl f1))) : Nat × va_E)] ++ [((o2, .inl (G 4, 1, .inr (.inr (.inr (.inl f2))))) : Nat × va_E)])) hD) hA hS (ci := 11) (iw := 0) rfl rfl rfl hl (As := []) (rest := [.int rc]) rfl (Nat.le_of_ble_eq_true rfl) (fun H1 locs hQ hz hkp hS => ?_)
  have hP : va_P D vwCl (lwW a B G o1 o2 S rm.2 f1 f2) H1 := jMidJoin (pre := []) (mid := wM a G M) (mid' := wM a G rm.2) (post := wTS B G S ++ ([((o1, .inl (G 3, 1, .inr (.inl f1))) : Nat × va_E)] ++ [((o2, .inl (G 4, 1, .inr (.inr (.inr (.inl f2))))) : Nat × va_E)])) hP hD hkp hQ
  have hD : va_D A (lwW a B G o1 o2 S rm.2 f1 f2) := lwD hD0
  clear hQ hz hkp
  generalize H1 = H at hP hS ⊢
  refine lv_icmp_eq (tgt := 2403) hx hb dL_law_1080 (by decide) (fun _ => ?_) (fun h => absurd hv h)
  exact kk S rm.2 f1 f2 ls H locs hR2 hP hD hS (lv_sub hl [0, 1, 2, 3, 4, 5] rfl)
def jE_sell (Rl : (Nat → Nat → Nat → Int32) → (Nat → Nat → Int32) → Prop) : Prop := ∀ (S : Nat → Nat → Nat → Int32) (M : Nat → Nat → Int32) (v1 v2 : Int32), Rl S M → ∃ (N1 : Nat) (rc : _) (N2 : Nat) (rm : _), F_X8_sell N1 S v1 v2 = some rc ∧ F_X9_sell N2 M v1 v2 = some rm ∧ (rc.1 = 0 ∨ rc.1 = 1 ∨ rc.1 = 2 ∨ rc.1 = 4) ∧ rm.2 0 0 = hk_sell rc.1 ∧ (rc.1 = 0 → rc.2.1 = rm.1) ∧ Rl rc.2.2 rm.2
theorem hy_sell : hY yL_sell cL_sell 5 [(0, 10, 13, 13), (0, 10, 17, 15), (0, 10, 21, 17)] 4 := ⟨by decide +kernel, jq_31_14, jq_6_7⟩
set_option maxHeartbeats 4000000 in
set_option maxRecDepth 100000 in
theorem lc_sell {p : Program} {l : Launch} {e : Env} {s : State} {m : MethodId} {args : Array Value} {below : List Frame} {meth : Method} {c : Code} {Q : State → Prop} {D : va_G} {G : Nat → ClassId} {A : Nat → Prop} {ks va : Nat → Nat} {b L i : Nat} {xs : Nat → Int32} {a : Nat → Nat} {B : Nat → Nat → Nat} {o1 o2 : Nat} {Rl : (Nat → Nat → Nat → Int32) → (Nat → Nat → Int32) → Prop} {ret : Option FieldType}
    (C : Cx p s m args meth c cL_law 9 RL ret D G) (hl0 : l.stackTraces = false) (hZ : jZ ks va A s s.heap) (hC : jC s) (hA : ∀ q : Nat, s.heap.size ≤ q → A q) (hX : va_X b L xs s s.heap) (hbl : b < s.heap.size) (hbA : ¬ A b) (h0 : vp_in (nI i) L) (h1 : vp_in (nI i + 1) L) (h2 : vp_in (nI i + 2) L) (h3 : vp_in (nI i + 3) L) (h4 : vp_in (nI i + 4) L) (hE : jE_sell Rl) : ∀ (S : Nat → Nat → Nat → Int32) (M : Nat → Nat → Int32) (f1 : Nat → Int64) (f2 : Nat → UInt64) (ls : Array Slot) (H : Heap) (locs : List Loc) (cells slots : Nat), cells + 3 ≤ 603072 → slots + 18 ≤ 7174250 → Rl S M → va_P D vwCl (lwW a B G o1 o2 S M f1 f2) H → va_D A (lwW a B G o1 o2 S M f1 f2) → va_S A s.heap H locs → lv_has ls 9 [(5, .int (nI i)), (4, .ref o2), (3, .ref o1), (2, .ref (a 0)), (1, .ref (B 9 0)), (0, .ref b)] → (∀ (S : Nat → Nat → Nat → Int32) (M : Nat → Nat → Int32) (f1 : Nat → Int64) (f2 : Nat → UInt64) (ls : Array Slot) (H : Heap) (locs : List Loc), Rl S M → va_P D vwCl (lwW a B G o1 o2 S M f1 f2) H → va_D A (lwW a B G o1 o2 S M f1 f2) → va_S A s.heap H locs → lv_has ls 9 [(5, .int (nI i)), (4, .ref o2), (3, .ref o1), (2, .ref (a 0)), (1, .ref (B 9 0)), (0, .ref b)] → W p l e room_1 s m args below meth c H locs (cells + 3) (slots + 18) Q (F0 m 2403 ls [])) → W p l e room_1 s m args below meth c H locs cells slots Q (F0 m 1085 ls []) := by
  intro S M f1 f2 ls H locs cells slots hcc hcs hR hP hD hS hl kk
  have hD0 := hD
  obtain ⟨hx, hb, hr, hml, hts, hown, hlocks, hK0⟩ := id C
  have hK := hK0.1
  refine lv_aload_n hx hb dL_law_1085 rfl (lv_at hl 4 rfl) ?_
  refine lv_aload_n hx hb dL_law_1086 rfl (lv_at hl 5 rfl) ?_
  refine lv_iload hx hb dL_law_1087 (lv_at hl 0 rfl) ?_
  refine lv_iconst (v := 1) hx hb dL_law_1089 (by decide) ?_
  refine lv_iadd hx hb dL_law_1090 ?_
  refine va_sld hx hb hX hbl hbA hS h1 dL_law_1091 ?_
  refine lv_aload_n hx hb dL_law_1092 rfl (lv_at hl 5 rfl) ?_
  refine lv_iload hx hb dL_law_1093 (lv_at hl 0 rfl) ?_
  refine lv_iconst (v := 2) hx hb dL_law_1095 (by decide) ?_
  refine lv_iadd hx hb dL_law_1096 ?_
  refine va_sld hx hb hX hbl hbA hS h2 dL_law_1097 ?_
  refine lv_aload_n hx hb dL_law_1098 rfl (lv_at hl 2 rfl) ?_
  obtain ⟨N1, rc, N2, rm, e1, e2, hk, ht, hv, hR2⟩ := hE S M (xs (nI i + 1).toNatClampNeg) (xs (nI i + 2).toNatClampNeg) hR
  rw [lwW_1] at hP hD
  refine jSh C dL_law_1099 (kh_sell l hl0 D G B ks va o1 f1 N1 S (xs (nI i + 1).toNatClampNeg) (xs (nI i + 2).toNatClampNeg) rc e1 hk) hy_sell jq_31_12 jq_31_13 ⟨Nat.le_of_ble_eq_true rfl, Nat.le_of_ble_eq_true rfl⟩ ⟨by show cells + 3 ≤ 603072; omega, by show slots + 18 ≤ 7174250; omega⟩ hZ hC (jMidP (pre := wM a G M) (mid := wTS B G S ++ [((o1, .inl (G 3, 1, .inr (.inl f1))) : Nat × va_E)]) (post := [((o2, .inl (G 4, 1, .inr (.inr (.inr (.inl f2))))) : Nat × va_E)]) hP) (jMidD (pre := wM a G M) (mid := wTS B G S ++ [((o1, .inl (G 3, 1, .inr (.inl f1))) : Nat × va_E)]) (post := [((o2, .inl (G 4, 1, .inr (.inr (.inr (.inl f2))))) : Nat × va_E)]) hD) hA hS hl (As := [.ref (B 9 0), .int (xs (nI i + 1).toNatClampNeg), .int (xs (nI i + 2).toNatClampNeg), .ref o1]) (rest := []) rfl (Nat.le_of_ble_eq_true rfl) (fun H1 locs hQ hz hkp hS => ?_)
  have hP := jMidJoin (pre := wM a G M) (mid := wTS B G S ++ [((o1, .inl (G 3, 1, .inr (.inl f1))) : Nat × va_E)]) (mid' := wTS B G rc.2.2 ++ [((o1, .inl (G 3, 1, .inr (.inl (hO rc.1 f1 rc.2.1)))) : Nat × va_E)]) (post := [((o2, .inl (G 4, 1, .inr (.inr (.inr (.inl f2))))) : Nat × va_E)]) hP hD hkp hQ
  have hP : va_P D vwCl (lwW a B G o1 o2 rc.2.2 M (hO rc.1 f1 rc.2.1) f2) H1 := by rw [lwW_1]; exact hP
  have hD : va_D A (lwW a B G o1 o2 rc.2.2 M (hO rc.1 f1 rc.2.1) f2) := lwD hD0
  clear hQ hz hkp
  generalize H1 = H at hP hS ⊢
  refine W.widen (k := cells + 3) (n := slots + 18) (show cells + 3 ≤ cells + 3 by omega) (show slots + 18 ≤ slots + 18 by omega) ?_
  refine lv_istore (lv' := [(6, .int (hk_sell rc.1)), (5, .int (nI i)), (4, .ref o2), (3, .ref o1), (2, .ref (a 0)), (1, .ref (B 9 0)), (0, .ref b)]) hx hb dL_law_1102 hl (by decide) rfl (fun ls hl => ?_)
  refine lv_aload_n hx hb dL_law_1104 rfl (lv_at hl 4 rfl) ?_
  refine lv_aload_n hx hb dL_law_1105 rfl (lv_at hl 6 rfl) ?_
  refine lv_iload hx hb dL_law_1106 (lv_at hl 1 rfl) ?_
  refine lv_iconst (v := 1) hx hb dL_law_1108 (by decide) ?_
  refine lv_iadd hx hb dL_law_1109 ?_
  refine va_sld hx hb hX hbl hbA hS h1 dL_law_1110 ?_
  refine lv_aload_n hx hb dL_law_1111 rfl (lv_at hl 6 rfl) ?_
  refine lv_iload hx hb dL_law_1112 (lv_at hl 1 rfl) ?_
  refine lv_iconst (v := 2) hx hb dL_law_1114 (by decide) ?_
  refine lv_iadd hx hb dL_law_1115 ?_
  refine va_sld hx hb hX hbl hbA hS h2 dL_law_1116 ?_
  refine jVmI C dL_law_1117 (k_X9_sell l D G a N2 M (xs (nI i + 1).toNatClampNeg) (xs (nI i + 2).toNatClampNeg) rm e2) jy_X9_sell jq_31_23 jq_32_0 jq_32_1 ⟨rfl, rfl, Nat.le_of_ble_eq_true rfl, Nat.le_of_ble_eq_true rfl⟩ ⟨by show cells + 3 ≤ 603072; omega, by show slots + 18 ≤ 7174250; omega⟩ (jMidP (pre := []) (mid := wM a G M) (post := wTS B G rc.2.2 ++ ([((o1, .inl (G 3, 1, .inr (.inl (hO rc.1 f1 rc.2.1)))) : Nat × va_E)] ++ [((o2, .inl (G 4, 1, .inr (.inr (.inr (.inl f2))))) : Nat × va_E)])) hP) (jMidD (pre := []) (mid := wM a G M) (post := wTS B G rc.2.2 ++ ([((o1, .inl (G 3, 1, .inr (.inl (hO rc.1 f1 rc.2.1)))) : Nat × va_E)] ++ [((o2, .inl (G 4, 1, .inr (.inr (.inr (.inl f2))))) : Nat × va_E)])) hD) hA hS (ci := 11) (iw := 0) rfl rfl rfl hl (As := [.int (xs (nI i + 1).toNatClampNeg), .int (xs (nI i + 2).toNatClampNeg)]) (rest := []) rfl (Nat.le_of_ble_eq_true rfl) (fun H1 locs hQ hz hkp hS => ?_)
  have hP : va_P D vwCl (lwW a B G o1 o2 rc.2.2 rm.2 (hO rc.1 f1 rc.2.1) f2) H1 := jMidJoin (pre := []) (mid := wM a G M) (mid' := wM a G rm.2) (post := wTS B G rc.2.2 ++ ([((o1, .inl (G 3, 1, .inr (.inl (hO rc.1 f1 rc.2.1)))) : Nat × va_E)] ++ [((o2, .inl (G 4, 1, .inr (.inr (.inr (.inl f2))))) : Nat × va_E)])) hP hD hkp hQ
  have hD : va_D A (lwW a B G o1 o2 rc.2.2 rm.2 (hO rc.1 f1 rc.2.1) f2) := lwD hD0
  clear hQ hz hkp
  generalize H1 = H at hP hS ⊢
  refine lv_istore (lv' := [(7, .int rm.1), (6, .int (hk_sell rc.1)), (5, .int (nI i)), (4, .ref o2), (3, .ref o1), (2, .ref (a 0)), (1, .ref (B 9 0)), (0, .ref b)]) hx hb dL_law_1120 hl (by decide) rfl (fun ls hl => ?_)
  refine lv_aload_n hx hb dL_law_1122 rfl (lv_at hl 5 rfl) ?_
  refine jVpI C dL_law_1123 (k_X9_thrown l D G a N2 rm.2 (rm.2 0 0) rfl) jy_X9_thrown jq_15_8 jq_15_9 jq_15_10 ⟨rfl, rfl, Nat.le_of_ble_eq_true rfl, Nat.le_of_ble_eq_true rfl⟩ ⟨by show cells + 3 ≤ 603072; omega, by show slots + 18 ≤ 7174250; omega⟩ (jMidP (pre := []) (mid := wM a G rm.2) (post := wTS B G rc.2.2 ++ ([((o1, .inl (G 3, 1, .inr (.inl (hO rc.1 f1 rc.2.1)))) : Nat × va_E)] ++ [((o2, .inl (G 4, 1, .inr (.inr (.inr (.inl f2))))) : Nat × va_E)])) hP) (ci := 11) (iw := 0) rfl rfl rfl hl (As := []) (rest := []) rfl (Nat.le_of_ble_eq_true rfl) ?_
  refine lv_iload hx hb dL_law_1126 (lv_at hl 1 rfl) ?_
  refine lv_icmp_eq (tgt := 1133) hx hb dL_law_1128 (by decide) (fun _ => ?_) (fun h => absurd ht h)
  refine lv_iload hx hb dL_law_1133 (lv_at hl 1 rfl) ?_
  refine lv_if_ne (tgt := 1150) hx hb dL_law_1135 (by decide) (fun _ => ?_) (fun hz0 => ?_)
  · refine lv_goto (tgt := 2403) hx hb dL_law_1150 (by decide) ?_
    exact kk rc.2.2 rm.2 (hO rc.1 f1 rc.2.1) f2 ls H locs hR2 hP hD hS (lv_sub hl [2, 3, 4, 5, 6, 7] rfl)
  · have hk0 : rc.1 = 0 := by
      rcases hk with hk | hk | hk | hk
      · exact hk
      · rw [hk] at hz0; exact absurd hz0 (by decide)
      · rw [hk] at hz0; exact absurd hz0 (by decide)
      · rw [hk] at hz0; exact absurd hz0 (by decide)
    refine lv_aload_n hx hb dL_law_1138 rfl (lv_at hl 4 rfl) ?_
    refine lv_iconst (v := 0) hx hb dL_law_1139 (by decide) ?_
    rw [lwW_1] at hP
    refine va_lald (n := 1) hx hb hK hP ((wM a G rm.2).length + (wTS B G rc.2.2).length) 3 (jAt1 _ _ _ _) rfl (inb_of (by decide)) dL_law_1140 ?_
    rw [← lwW_1] at hP
    refine lv_iload hx hb dL_law_1141 (lv_at hl 0 rfl) ?_
    refine lv_i2l hx hb dL_law_1143 rfl ?_
    refine W.lcmp hx hb dL_law_1144 ?_
    have hzz : lg_cmp ((hO rc.1 f1 rc.2.1) (0 : Int32).toNatClampNeg) rm.1.toInt64 = 0 := lgc (by unfold hO; rw [if_pos hk0, hv hk0]; rfl)
    refine lv_if_eq (tgt := 1150) hx hb dL_law_1145 (by decide) (fun _ => ?_) (fun h => absurd hzz h)
    refine lv_goto (tgt := 2403) hx hb dL_law_1150 (by decide) ?_
    exact kk rc.2.2 rm.2 (hO rc.1 f1 rc.2.1) f2 ls H locs hR2 hP hD hS (lv_sub hl [2, 3, 4, 5, 6, 7] rfl)
def jE_refund (Rl : (Nat → Nat → Nat → Int32) → (Nat → Nat → Int32) → Prop) : Prop := ∀ (S : Nat → Nat → Nat → Int32) (M : Nat → Nat → Int32) (v1 v2 : Int32), Rl S M → ∃ (N1 : Nat) (rc : _) (N2 : Nat) (rm : _), F_X8_refund N1 S v1 v2 = some rc ∧ F_X9_refund N2 M v1 v2 = some rm ∧ (rc.1 = 0 ∨ rc.1 = 1 ∨ rc.1 = 2 ∨ rc.1 = 4) ∧ rm.2 0 0 = hk_refund rc.1 ∧ (rc.1 = 0 → rc.2.1 = rm.1) ∧ Rl rc.2.2 rm.2
theorem hy_refund : hY yL_refund cL_refund 5 [(0, 10, 13, 13), (0, 10, 17, 15), (0, 10, 21, 17)] 4 := ⟨by decide +kernel, jq_32_9, jq_6_7⟩
set_option maxHeartbeats 4000000 in
set_option maxRecDepth 100000 in
theorem lc_refund {p : Program} {l : Launch} {e : Env} {s : State} {m : MethodId} {args : Array Value} {below : List Frame} {meth : Method} {c : Code} {Q : State → Prop} {D : va_G} {G : Nat → ClassId} {A : Nat → Prop} {ks va : Nat → Nat} {b L i : Nat} {xs : Nat → Int32} {a : Nat → Nat} {B : Nat → Nat → Nat} {o1 o2 : Nat} {Rl : (Nat → Nat → Nat → Int32) → (Nat → Nat → Int32) → Prop} {ret : Option FieldType}
    (C : Cx p s m args meth c cL_law 9 RL ret D G) (hl0 : l.stackTraces = false) (hZ : jZ ks va A s s.heap) (hC : jC s) (hA : ∀ q : Nat, s.heap.size ≤ q → A q) (hX : va_X b L xs s s.heap) (hbl : b < s.heap.size) (hbA : ¬ A b) (h0 : vp_in (nI i) L) (h1 : vp_in (nI i + 1) L) (h2 : vp_in (nI i + 2) L) (h3 : vp_in (nI i + 3) L) (h4 : vp_in (nI i + 4) L) (hE : jE_refund Rl) : ∀ (S : Nat → Nat → Nat → Int32) (M : Nat → Nat → Int32) (f1 : Nat → Int64) (f2 : Nat → UInt64) (ls : Array Slot) (H : Heap) (locs : List Loc) (cells slots : Nat), cells + 3 ≤ 603072 → slots + 18 ≤ 7174250 → Rl S M → va_P D vwCl (lwW a B G o1 o2 S M f1 f2) H → va_D A (lwW a B G o1 o2 S M f1 f2) → va_S A s.heap H locs → lv_has ls 9 [(5, .int (nI i)), (4, .ref o2), (3, .ref o1), (2, .ref (a 0)), (1, .ref (B 9 0)), (0, .ref b)] → (∀ (S : Nat → Nat → Nat → Int32) (M : Nat → Nat → Int32) (f1 : Nat → Int64) (f2 : Nat → UInt64) (ls : Array Slot) (H : Heap) (locs : List Loc), Rl S M → va_P D vwCl (lwW a B G o1 o2 S M f1 f2) H → va_D A (lwW a B G o1 o2 S M f1 f2) → va_S A s.heap H locs → lv_has ls 9 [(5, .int (nI i)), (4, .ref o2), (3, .ref o1), (2, .ref (a 0)), (1, .ref (B 9 0)), (0, .ref b)] → W p l e room_1 s m args below meth c H locs (cells + 3) (slots + 18) Q (F0 m 2403 ls [])) → W p l e room_1 s m args below meth c H locs cells slots Q (F0 m 1153 ls []) := by
  intro S M f1 f2 ls H locs cells slots hcc hcs hR hP hD hS hl kk
  have hD0 := hD
  obtain ⟨hx, hb, hr, hml, hts, hown, hlocks, hK0⟩ := id C
  have hK := hK0.1
  refine lv_aload_n hx hb dL_law_1153 rfl (lv_at hl 4 rfl) ?_
  refine lv_aload_n hx hb dL_law_1154 rfl (lv_at hl 5 rfl) ?_
  refine lv_iload hx hb dL_law_1155 (lv_at hl 0 rfl) ?_
  refine lv_iconst (v := 1) hx hb dL_law_1157 (by decide) ?_
  refine lv_iadd hx hb dL_law_1158 ?_
  refine va_sld hx hb hX hbl hbA hS h1 dL_law_1159 ?_
  refine lv_aload_n hx hb dL_law_1160 rfl (lv_at hl 5 rfl) ?_
  refine lv_iload hx hb dL_law_1161 (lv_at hl 0 rfl) ?_
  refine lv_iconst (v := 2) hx hb dL_law_1163 (by decide) ?_
  refine lv_iadd hx hb dL_law_1164 ?_
  refine va_sld hx hb hX hbl hbA hS h2 dL_law_1165 ?_
  refine lv_aload_n hx hb dL_law_1166 rfl (lv_at hl 2 rfl) ?_
  obtain ⟨N1, rc, N2, rm, e1, e2, hk, ht, hv, hR2⟩ := hE S M (xs (nI i + 1).toNatClampNeg) (xs (nI i + 2).toNatClampNeg) hR
  rw [lwW_1] at hP hD
  refine jSh C dL_law_1167 (kh_refund l hl0 D G B ks va o1 f1 N1 S (xs (nI i + 1).toNatClampNeg) (xs (nI i + 2).toNatClampNeg) rc e1 hk) hy_refund jq_32_7 jq_32_8 ⟨Nat.le_of_ble_eq_true rfl, Nat.le_of_ble_eq_true rfl⟩ ⟨by show cells + 3 ≤ 603072; omega, by show slots + 18 ≤ 7174250; omega⟩ hZ hC (jMidP (pre := wM a G M) (mid := wTS B G S ++ [((o1, .inl (G 3, 1, .inr (.inl f1))) : Nat × va_E)]) (post := [((o2, .inl (G 4, 1, .inr (.inr (.inr (.inl f2))))) : Nat × va_E)]) hP) (jMidD (pre := wM a G M) (mid := wTS B G S ++ [((o1, .inl (G 3, 1, .inr (.inl f1))) : Nat × va_E)]) (post := [((o2, .inl (G 4, 1, .inr (.inr (.inr (.inl f2))))) : Nat × va_E)]) hD) hA hS hl (As := [.ref (B 9 0), .int (xs (nI i + 1).toNatClampNeg), .int (xs (nI i + 2).toNatClampNeg), .ref o1]) (rest := []) rfl (Nat.le_of_ble_eq_true rfl) (fun H1 locs hQ hz hkp hS => ?_)
  have hP := jMidJoin (pre := wM a G M) (mid := wTS B G S ++ [((o1, .inl (G 3, 1, .inr (.inl f1))) : Nat × va_E)]) (mid' := wTS B G rc.2.2 ++ [((o1, .inl (G 3, 1, .inr (.inl (hO rc.1 f1 rc.2.1)))) : Nat × va_E)]) (post := [((o2, .inl (G 4, 1, .inr (.inr (.inr (.inl f2))))) : Nat × va_E)]) hP hD hkp hQ
  have hP : va_P D vwCl (lwW a B G o1 o2 rc.2.2 M (hO rc.1 f1 rc.2.1) f2) H1 := by rw [lwW_1]; exact hP
  have hD : va_D A (lwW a B G o1 o2 rc.2.2 M (hO rc.1 f1 rc.2.1) f2) := lwD hD0
  clear hQ hz hkp
  generalize H1 = H at hP hS ⊢
  refine W.widen (k := cells + 3) (n := slots + 18) (show cells + 3 ≤ cells + 3 by omega) (show slots + 18 ≤ slots + 18 by omega) ?_
  refine lv_istore (lv' := [(6, .int (hk_refund rc.1)), (5, .int (nI i)), (4, .ref o2), (3, .ref o1), (2, .ref (a 0)), (1, .ref (B 9 0)), (0, .ref b)]) hx hb dL_law_1170 hl (by decide) rfl (fun ls hl => ?_)
  refine lv_aload_n hx hb dL_law_1172 rfl (lv_at hl 4 rfl) ?_
  refine lv_aload_n hx hb dL_law_1173 rfl (lv_at hl 6 rfl) ?_
  refine lv_iload hx hb dL_law_1174 (lv_at hl 1 rfl) ?_
  refine lv_iconst (v := 1) hx hb dL_law_1176 (by decide) ?_
  refine lv_iadd hx hb dL_law_1177 ?_
  refine va_sld hx hb hX hbl hbA hS h1 dL_law_1178 ?_
  refine lv_aload_n hx hb dL_law_1179 rfl (lv_at hl 6 rfl) ?_
  refine lv_iload hx hb dL_law_1180 (lv_at hl 1 rfl) ?_
  refine lv_iconst (v := 2) hx hb dL_law_1182 (by decide) ?_
  refine lv_iadd hx hb dL_law_1183 ?_
  refine va_sld hx hb hX hbl hbA hS h2 dL_law_1184 ?_
  refine jVmI C dL_law_1185 (k_X9_refund l D G a N2 M (xs (nI i + 1).toNatClampNeg) (xs (nI i + 2).toNatClampNeg) rm e2) jy_X9_refund jq_32_18 jq_32_19 jq_32_20 ⟨rfl, rfl, Nat.le_of_ble_eq_true rfl, Nat.le_of_ble_eq_true rfl⟩ ⟨by show cells + 3 ≤ 603072; omega, by show slots + 18 ≤ 7174250; omega⟩ (jMidP (pre := []) (mid := wM a G M) (post := wTS B G rc.2.2 ++ ([((o1, .inl (G 3, 1, .inr (.inl (hO rc.1 f1 rc.2.1)))) : Nat × va_E)] ++ [((o2, .inl (G 4, 1, .inr (.inr (.inr (.inl f2))))) : Nat × va_E)])) hP) (jMidD (pre := []) (mid := wM a G M) (post := wTS B G rc.2.2 ++ ([((o1, .inl (G 3, 1, .inr (.inl (hO rc.1 f1 rc.2.1)))) : Nat × va_E)] ++ [((o2, .inl (G 4, 1, .inr (.inr (.inr (.inl f2))))) : Nat × va_E)])) hD) hA hS (ci := 11) (iw := 0) rfl rfl rfl hl (As := [.int (xs (nI i + 1).toNatClampNeg), .int (xs (nI i + 2).toNatClampNeg)]) (rest := []) rfl (Nat.le_of_ble_eq_true rfl) (fun H1 locs hQ hz hkp hS => ?_)
  have hP : va_P D vwCl (lwW a B G o1 o2 rc.2.2 rm.2 (hO rc.1 f1 rc.2.1) f2) H1 := jMidJoin (pre := []) (mid := wM a G M) (mid' := wM a G rm.2) (post := wTS B G rc.2.2 ++ ([((o1, .inl (G 3, 1, .inr (.inl (hO rc.1 f1 rc.2.1)))) : Nat × va_E)] ++ [((o2, .inl (G 4, 1, .inr (.inr (.inr (.inl f2))))) : Nat × va_E)])) hP hD hkp hQ
  have hD : va_D A (lwW a B G o1 o2 rc.2.2 rm.2 (hO rc.1 f1 rc.2.1) f2) := lwD hD0
  clear hQ hz hkp
  generalize H1 = H at hP hS ⊢
  refine lv_istore (lv' := [(7, .int rm.1), (6, .int (hk_refund rc.1)), (5, .int (nI i)), (4, .ref o2), (3, .ref o1), (2, .ref (a 0)), (1, .ref (B 9 0)), (0, .ref b)]) hx hb dL_law_1188 hl (by decide) rfl (fun ls hl => ?_)
  refine lv_aload_n hx hb dL_law_1190 rfl (lv_at hl 5 rfl) ?_
  refine jVpI C dL_law_1191 (k_X9_thrown l D G a N2 rm.2 (rm.2 0 0) rfl) jy_X9_thrown jq_15_8 jq_15_9 jq_15_10 ⟨rfl, rfl, Nat.le_of_ble_eq_true rfl, Nat.le_of_ble_eq_true rfl⟩ ⟨by show cells + 3 ≤ 603072; omega, by show slots + 18 ≤ 7174250; omega⟩ (jMidP (pre := []) (mid := wM a G rm.2) (post := wTS B G rc.2.2 ++ ([((o1, .inl (G 3, 1, .inr (.inl (hO rc.1 f1 rc.2.1)))) : Nat × va_E)] ++ [((o2, .inl (G 4, 1, .inr (.inr (.inr (.inl f2))))) : Nat × va_E)])) hP) (ci := 11) (iw := 0) rfl rfl rfl hl (As := []) (rest := []) rfl (Nat.le_of_ble_eq_true rfl) ?_
  refine lv_iload hx hb dL_law_1194 (lv_at hl 1 rfl) ?_
  refine lv_icmp_eq (tgt := 1201) hx hb dL_law_1196 (by decide) (fun _ => ?_) (fun h => absurd ht h)
  refine lv_iload hx hb dL_law_1201 (lv_at hl 1 rfl) ?_
  refine lv_if_ne (tgt := 1218) hx hb dL_law_1203 (by decide) (fun _ => ?_) (fun hz0 => ?_)
  · refine lv_goto (tgt := 2403) hx hb dL_law_1218 (by decide) ?_
    exact kk rc.2.2 rm.2 (hO rc.1 f1 rc.2.1) f2 ls H locs hR2 hP hD hS (lv_sub hl [2, 3, 4, 5, 6, 7] rfl)
  · have hk0 : rc.1 = 0 := by
      rcases hk with hk | hk | hk | hk
      · exact hk
      · rw [hk] at hz0; exact absurd hz0 (by decide)
      · rw [hk] at hz0; exact absurd hz0 (by decide)
      · rw [hk] at hz0; exact absurd hz0 (by decide)
    refine lv_aload_n hx hb dL_law_1206 rfl (lv_at hl 4 rfl) ?_
    refine lv_iconst (v := 0) hx hb dL_law_1207 (by decide) ?_
    rw [lwW_1] at hP
    refine va_lald (n := 1) hx hb hK hP ((wM a G rm.2).length + (wTS B G rc.2.2).length) 3 (jAt1 _ _ _ _) rfl (inb_of (by decide)) dL_law_1208 ?_
    rw [← lwW_1] at hP
    refine lv_iload hx hb dL_law_1209 (lv_at hl 0 rfl) ?_
    refine lv_i2l hx hb dL_law_1211 rfl ?_
    refine W.lcmp hx hb dL_law_1212 ?_
    have hzz : lg_cmp ((hO rc.1 f1 rc.2.1) (0 : Int32).toNatClampNeg) rm.1.toInt64 = 0 := lgc (by unfold hO; rw [if_pos hk0, hv hk0]; rfl)
    refine lv_if_eq (tgt := 1218) hx hb dL_law_1213 (by decide) (fun _ => ?_) (fun h => absurd hzz h)
    refine lv_goto (tgt := 2403) hx hb dL_law_1218 (by decide) ?_
    exact kk rc.2.2 rm.2 (hO rc.1 f1 rc.2.1) f2 ls H locs hR2 hP hD hS (lv_sub hl [2, 3, 4, 5, 6, 7] rfl)
def jE_request (Rl : (Nat → Nat → Nat → Int32) → (Nat → Nat → Int32) → Prop) : Prop := ∀ (S : Nat → Nat → Nat → Int32) (M : Nat → Nat → Int32) (v1 v2 v3 : Int32), Rl S M → ∃ (N1 : Nat) (rc : _) (N2 : Nat) (rm : _), F_X8_request N1 S v1 v2 v3 = some rc ∧ F_X9_request N2 M v1 v2 v3 = some rm ∧ (rc.1 = 0 ∨ rc.1 = 1 ∨ rc.1 = 2 ∨ rc.1 = 4) ∧ rm.2 0 0 = hk_request rc.1 ∧ (rc.1 = 0 → rc.2.1 = rm.1) ∧ Rl rc.2.2 rm.2
theorem hy_request : hY yL_request cL_request 6 [(0, 12, 15, 13), (0, 12, 19, 15), (0, 12, 23, 17)] 5 := ⟨by decide +kernel, jq_33_4, jq_6_7⟩
set_option maxHeartbeats 4000000 in
set_option maxRecDepth 100000 in
theorem lc_request {p : Program} {l : Launch} {e : Env} {s : State} {m : MethodId} {args : Array Value} {below : List Frame} {meth : Method} {c : Code} {Q : State → Prop} {D : va_G} {G : Nat → ClassId} {A : Nat → Prop} {ks va : Nat → Nat} {b L i : Nat} {xs : Nat → Int32} {a : Nat → Nat} {B : Nat → Nat → Nat} {o1 o2 : Nat} {Rl : (Nat → Nat → Nat → Int32) → (Nat → Nat → Int32) → Prop} {ret : Option FieldType}
    (C : Cx p s m args meth c cL_law 9 RL ret D G) (hl0 : l.stackTraces = false) (hZ : jZ ks va A s s.heap) (hC : jC s) (hA : ∀ q : Nat, s.heap.size ≤ q → A q) (hX : va_X b L xs s s.heap) (hbl : b < s.heap.size) (hbA : ¬ A b) (h0 : vp_in (nI i) L) (h1 : vp_in (nI i + 1) L) (h2 : vp_in (nI i + 2) L) (h3 : vp_in (nI i + 3) L) (h4 : vp_in (nI i + 4) L) (hE : jE_request Rl) : ∀ (S : Nat → Nat → Nat → Int32) (M : Nat → Nat → Int32) (f1 : Nat → Int64) (f2 : Nat → UInt64) (ls : Array Slot) (H : Heap) (locs : List Loc) (cells slots : Nat), cells + 3 ≤ 603072 → slots + 18 ≤ 7174250 → Rl S M → va_P D vwCl (lwW a B G o1 o2 S M f1 f2) H → va_D A (lwW a B G o1 o2 S M f1 f2) → va_S A s.heap H locs → lv_has ls 9 [(5, .int (nI i)), (4, .ref o2), (3, .ref o1), (2, .ref (a 0)), (1, .ref (B 9 0)), (0, .ref b)] → (∀ (S : Nat → Nat → Nat → Int32) (M : Nat → Nat → Int32) (f1 : Nat → Int64) (f2 : Nat → UInt64) (ls : Array Slot) (H : Heap) (locs : List Loc), Rl S M → va_P D vwCl (lwW a B G o1 o2 S M f1 f2) H → va_D A (lwW a B G o1 o2 S M f1 f2) → va_S A s.heap H locs → lv_has ls 9 [(5, .int (nI i)), (4, .ref o2), (3, .ref o1), (2, .ref (a 0)), (1, .ref (B 9 0)), (0, .ref b)] → W p l e room_1 s m args below meth c H locs (cells + 3) (slots + 18) Q (F0 m 2403 ls [])) → W p l e room_1 s m args below meth c H locs cells slots Q (F0 m 1221 ls []) := by
  intro S M f1 f2 ls H locs cells slots hcc hcs hR hP hD hS hl kk
  have hD0 := hD
  obtain ⟨hx, hb, hr, hml, hts, hown, hlocks, hK0⟩ := id C
  have hK := hK0.1
  refine lv_aload_n hx hb dL_law_1221 rfl (lv_at hl 4 rfl) ?_
  refine lv_aload_n hx hb dL_law_1222 rfl (lv_at hl 5 rfl) ?_
  refine lv_iload hx hb dL_law_1223 (lv_at hl 0 rfl) ?_
  refine lv_iconst (v := 1) hx hb dL_law_1225 (by decide) ?_
  refine lv_iadd hx hb dL_law_1226 ?_
  refine va_sld hx hb hX hbl hbA hS h1 dL_law_1227 ?_
  refine lv_aload_n hx hb dL_law_1228 rfl (lv_at hl 5 rfl) ?_
  refine lv_iload hx hb dL_law_1229 (lv_at hl 0 rfl) ?_
  refine lv_iconst (v := 2) hx hb dL_law_1231 (by decide) ?_
  refine lv_iadd hx hb dL_law_1232 ?_
  refine va_sld hx hb hX hbl hbA hS h2 dL_law_1233 ?_
  refine lv_aload_n hx hb dL_law_1234 rfl (lv_at hl 5 rfl) ?_
  refine lv_iload hx hb dL_law_1235 (lv_at hl 0 rfl) ?_
  refine lv_iconst (v := 3) hx hb dL_law_1237 (by decide) ?_
  refine lv_iadd hx hb dL_law_1238 ?_
  refine va_sld hx hb hX hbl hbA hS h3 dL_law_1239 ?_
  refine lv_aload_n hx hb dL_law_1240 rfl (lv_at hl 2 rfl) ?_
  obtain ⟨N1, rc, N2, rm, e1, e2, hk, ht, hv, hR2⟩ := hE S M (xs (nI i + 1).toNatClampNeg) (xs (nI i + 2).toNatClampNeg) (xs (nI i + 3).toNatClampNeg) hR
  rw [lwW_1] at hP hD
  refine jSh C dL_law_1241 (kh_request l hl0 D G B ks va o1 f1 N1 S (xs (nI i + 1).toNatClampNeg) (xs (nI i + 2).toNatClampNeg) (xs (nI i + 3).toNatClampNeg) rc e1 hk) hy_request jq_33_2 jq_33_3 ⟨Nat.le_of_ble_eq_true rfl, Nat.le_of_ble_eq_true rfl⟩ ⟨by show cells + 3 ≤ 603072; omega, by show slots + 18 ≤ 7174250; omega⟩ hZ hC (jMidP (pre := wM a G M) (mid := wTS B G S ++ [((o1, .inl (G 3, 1, .inr (.inl f1))) : Nat × va_E)]) (post := [((o2, .inl (G 4, 1, .inr (.inr (.inr (.inl f2))))) : Nat × va_E)]) hP) (jMidD (pre := wM a G M) (mid := wTS B G S ++ [((o1, .inl (G 3, 1, .inr (.inl f1))) : Nat × va_E)]) (post := [((o2, .inl (G 4, 1, .inr (.inr (.inr (.inl f2))))) : Nat × va_E)]) hD) hA hS hl (As := [.ref (B 9 0), .int (xs (nI i + 1).toNatClampNeg), .int (xs (nI i + 2).toNatClampNeg), .int (xs (nI i + 3).toNatClampNeg), .ref o1]) (rest := []) rfl (Nat.le_of_ble_eq_true rfl) (fun H1 locs hQ hz hkp hS => ?_)
  have hP := jMidJoin (pre := wM a G M) (mid := wTS B G S ++ [((o1, .inl (G 3, 1, .inr (.inl f1))) : Nat × va_E)]) (mid' := wTS B G rc.2.2 ++ [((o1, .inl (G 3, 1, .inr (.inl (hO rc.1 f1 rc.2.1)))) : Nat × va_E)]) (post := [((o2, .inl (G 4, 1, .inr (.inr (.inr (.inl f2))))) : Nat × va_E)]) hP hD hkp hQ
  have hP : va_P D vwCl (lwW a B G o1 o2 rc.2.2 M (hO rc.1 f1 rc.2.1) f2) H1 := by rw [lwW_1]; exact hP
  have hD : va_D A (lwW a B G o1 o2 rc.2.2 M (hO rc.1 f1 rc.2.1) f2) := lwD hD0
  clear hQ hz hkp
  generalize H1 = H at hP hS ⊢
  refine W.widen (k := cells + 3) (n := slots + 18) (show cells + 3 ≤ cells + 3 by omega) (show slots + 18 ≤ slots + 18 by omega) ?_
  refine lv_istore (lv' := [(6, .int (hk_request rc.1)), (5, .int (nI i)), (4, .ref o2), (3, .ref o1), (2, .ref (a 0)), (1, .ref (B 9 0)), (0, .ref b)]) hx hb dL_law_1244 hl (by decide) rfl (fun ls hl => ?_)
  refine lv_aload_n hx hb dL_law_1246 rfl (lv_at hl 4 rfl) ?_
  refine lv_aload_n hx hb dL_law_1247 rfl (lv_at hl 6 rfl) ?_
  refine lv_iload hx hb dL_law_1248 (lv_at hl 1 rfl) ?_
  refine lv_iconst (v := 1) hx hb dL_law_1250 (by decide) ?_
  refine lv_iadd hx hb dL_law_1251 ?_
  refine va_sld hx hb hX hbl hbA hS h1 dL_law_1252 ?_
  refine lv_aload_n hx hb dL_law_1253 rfl (lv_at hl 6 rfl) ?_
  refine lv_iload hx hb dL_law_1254 (lv_at hl 1 rfl) ?_
  refine lv_iconst (v := 2) hx hb dL_law_1256 (by decide) ?_
  refine lv_iadd hx hb dL_law_1257 ?_
  refine va_sld hx hb hX hbl hbA hS h2 dL_law_1258 ?_
  refine lv_aload_n hx hb dL_law_1259 rfl (lv_at hl 6 rfl) ?_
  refine lv_iload hx hb dL_law_1260 (lv_at hl 1 rfl) ?_
  refine lv_iconst (v := 3) hx hb dL_law_1262 (by decide) ?_
  refine lv_iadd hx hb dL_law_1263 ?_
  refine va_sld hx hb hX hbl hbA hS h3 dL_law_1264 ?_
  refine jVmI C dL_law_1265 (k_X9_request l D G a N2 M (xs (nI i + 1).toNatClampNeg) (xs (nI i + 2).toNatClampNeg) (xs (nI i + 3).toNatClampNeg) rm e2) jy_X9_request jq_33_21 jq_33_22 jq_33_23 ⟨rfl, rfl, Nat.le_of_ble_eq_true rfl, Nat.le_of_ble_eq_true rfl⟩ ⟨by show cells + 3 ≤ 603072; omega, by show slots + 18 ≤ 7174250; omega⟩ (jMidP (pre := []) (mid := wM a G M) (post := wTS B G rc.2.2 ++ ([((o1, .inl (G 3, 1, .inr (.inl (hO rc.1 f1 rc.2.1)))) : Nat × va_E)] ++ [((o2, .inl (G 4, 1, .inr (.inr (.inr (.inl f2))))) : Nat × va_E)])) hP) (jMidD (pre := []) (mid := wM a G M) (post := wTS B G rc.2.2 ++ ([((o1, .inl (G 3, 1, .inr (.inl (hO rc.1 f1 rc.2.1)))) : Nat × va_E)] ++ [((o2, .inl (G 4, 1, .inr (.inr (.inr (.inl f2))))) : Nat × va_E)])) hD) hA hS (ci := 11) (iw := 0) rfl rfl rfl hl (As := [.int (xs (nI i + 1).toNatClampNeg), .int (xs (nI i + 2).toNatClampNeg), .int (xs (nI i + 3).toNatClampNeg)]) (rest := []) rfl (Nat.le_of_ble_eq_true rfl) (fun H1 locs hQ hz hkp hS => ?_)
  have hP : va_P D vwCl (lwW a B G o1 o2 rc.2.2 rm.2 (hO rc.1 f1 rc.2.1) f2) H1 := jMidJoin (pre := []) (mid := wM a G M) (mid' := wM a G rm.2) (post := wTS B G rc.2.2 ++ ([((o1, .inl (G 3, 1, .inr (.inl (hO rc.1 f1 rc.2.1)))) : Nat × va_E)] ++ [((o2, .inl (G 4, 1, .inr (.inr (.inr (.inl f2))))) : Nat × va_E)])) hP hD hkp hQ
  have hD : va_D A (lwW a B G o1 o2 rc.2.2 rm.2 (hO rc.1 f1 rc.2.1) f2) := lwD hD0
  clear hQ hz hkp
  generalize H1 = H at hP hS ⊢
  refine lv_istore (lv' := [(7, .int rm.1), (6, .int (hk_request rc.1)), (5, .int (nI i)), (4, .ref o2), (3, .ref o1), (2, .ref (a 0)), (1, .ref (B 9 0)), (0, .ref b)]) hx hb dL_law_1268 hl (by decide) rfl (fun ls hl => ?_)
  refine lv_aload_n hx hb dL_law_1270 rfl (lv_at hl 5 rfl) ?_
  refine jVpI C dL_law_1271 (k_X9_thrown l D G a N2 rm.2 (rm.2 0 0) rfl) jy_X9_thrown jq_15_8 jq_15_9 jq_15_10 ⟨rfl, rfl, Nat.le_of_ble_eq_true rfl, Nat.le_of_ble_eq_true rfl⟩ ⟨by show cells + 3 ≤ 603072; omega, by show slots + 18 ≤ 7174250; omega⟩ (jMidP (pre := []) (mid := wM a G rm.2) (post := wTS B G rc.2.2 ++ ([((o1, .inl (G 3, 1, .inr (.inl (hO rc.1 f1 rc.2.1)))) : Nat × va_E)] ++ [((o2, .inl (G 4, 1, .inr (.inr (.inr (.inl f2))))) : Nat × va_E)])) hP) (ci := 11) (iw := 0) rfl rfl rfl hl (As := []) (rest := []) rfl (Nat.le_of_ble_eq_true rfl) ?_
  refine lv_iload hx hb dL_law_1274 (lv_at hl 1 rfl) ?_
  refine lv_icmp_eq (tgt := 1281) hx hb dL_law_1276 (by decide) (fun _ => ?_) (fun h => absurd ht h)
  refine lv_iload hx hb dL_law_1281 (lv_at hl 1 rfl) ?_
  refine lv_if_ne (tgt := 1298) hx hb dL_law_1283 (by decide) (fun _ => ?_) (fun hz0 => ?_)
  · refine lv_goto (tgt := 2403) hx hb dL_law_1298 (by decide) ?_
    exact kk rc.2.2 rm.2 (hO rc.1 f1 rc.2.1) f2 ls H locs hR2 hP hD hS (lv_sub hl [2, 3, 4, 5, 6, 7] rfl)
  · have hk0 : rc.1 = 0 := by
      rcases hk with hk | hk | hk | hk
      · exact hk
      · rw [hk] at hz0; exact absurd hz0 (by decide)
      · rw [hk] at hz0; exact absurd hz0 (by decide)
      · rw [hk] at hz0; exact absurd hz0 (by decide)
    refine lv_aload_n hx hb dL_law_1286 rfl (lv_at hl 4 rfl) ?_
    refine lv_iconst (v := 0) hx hb dL_law_1287 (by decide) ?_
    rw [lwW_1] at hP
    refine va_lald (n := 1) hx hb hK hP ((wM a G rm.2).length + (wTS B G rc.2.2).length) 3 (jAt1 _ _ _ _) rfl (inb_of (by decide)) dL_law_1288 ?_
    rw [← lwW_1] at hP
    refine lv_iload hx hb dL_law_1289 (lv_at hl 0 rfl) ?_
    refine lv_i2l hx hb dL_law_1291 rfl ?_
    refine W.lcmp hx hb dL_law_1292 ?_
    have hzz : lg_cmp ((hO rc.1 f1 rc.2.1) (0 : Int32).toNatClampNeg) rm.1.toInt64 = 0 := lgc (by unfold hO; rw [if_pos hk0, hv hk0]; rfl)
    refine lv_if_eq (tgt := 1298) hx hb dL_law_1293 (by decide) (fun _ => ?_) (fun h => absurd hzz h)
    refine lv_goto (tgt := 2403) hx hb dL_law_1298 (by decide) ?_
    exact kk rc.2.2 rm.2 (hO rc.1 f1 rc.2.1) f2 ls H locs hR2 hP hD hS (lv_sub hl [2, 3, 4, 5, 6, 7] rfl)
def jE_waiting (Rl : (Nat → Nat → Nat → Int32) → (Nat → Nat → Int32) → Prop) : Prop := ∀ (S : Nat → Nat → Nat → Int32) (M : Nat → Nat → Int32) (v1 v2 v3 : Int32), Rl S M → ∃ (N1 : Nat) (rc : _) (N2 : Nat) (rm : _), F_X8_waiting N1 S v1 v2 v3 = some rc ∧ F_X9_waiting N2 M v1 v2 v3 = some rm ∧ (rc.1 = 0 ∨ rc.1 = 1 ∨ rc.1 = 5) ∧ rm.2 0 0 = hk_waiting rc.1 ∧ (rc.1 = 0 → rc.2.1 = rm.1) ∧ Rl rc.2.2 rm.2
theorem hy_waiting : hY yL_waiting cL_waiting 6 [(0, 12, 15, 13), (0, 12, 19, 51)] 5 := ⟨by decide +kernel, jq_34_7, jq_6_7⟩
set_option maxHeartbeats 4000000 in
set_option maxRecDepth 100000 in
theorem lc_waiting {p : Program} {l : Launch} {e : Env} {s : State} {m : MethodId} {args : Array Value} {below : List Frame} {meth : Method} {c : Code} {Q : State → Prop} {D : va_G} {G : Nat → ClassId} {A : Nat → Prop} {ks va : Nat → Nat} {b L i : Nat} {xs : Nat → Int32} {a : Nat → Nat} {B : Nat → Nat → Nat} {o1 o2 : Nat} {Rl : (Nat → Nat → Nat → Int32) → (Nat → Nat → Int32) → Prop} {ret : Option FieldType}
    (C : Cx p s m args meth c cL_law 9 RL ret D G) (hl0 : l.stackTraces = false) (hZ : jZ ks va A s s.heap) (hC : jC s) (hA : ∀ q : Nat, s.heap.size ≤ q → A q) (hX : va_X b L xs s s.heap) (hbl : b < s.heap.size) (hbA : ¬ A b) (h0 : vp_in (nI i) L) (h1 : vp_in (nI i + 1) L) (h2 : vp_in (nI i + 2) L) (h3 : vp_in (nI i + 3) L) (h4 : vp_in (nI i + 4) L) (hE : jE_waiting Rl) : ∀ (S : Nat → Nat → Nat → Int32) (M : Nat → Nat → Int32) (f1 : Nat → Int64) (f2 : Nat → UInt64) (ls : Array Slot) (H : Heap) (locs : List Loc) (cells slots : Nat), cells + 3 ≤ 603072 → slots + 18 ≤ 7174250 → Rl S M → va_P D vwCl (lwW a B G o1 o2 S M f1 f2) H → va_D A (lwW a B G o1 o2 S M f1 f2) → va_S A s.heap H locs → lv_has ls 9 [(5, .int (nI i)), (4, .ref o2), (3, .ref o1), (2, .ref (a 0)), (1, .ref (B 9 0)), (0, .ref b)] → (∀ (S : Nat → Nat → Nat → Int32) (M : Nat → Nat → Int32) (f1 : Nat → Int64) (f2 : Nat → UInt64) (ls : Array Slot) (H : Heap) (locs : List Loc), Rl S M → va_P D vwCl (lwW a B G o1 o2 S M f1 f2) H → va_D A (lwW a B G o1 o2 S M f1 f2) → va_S A s.heap H locs → lv_has ls 9 [(5, .int (nI i)), (4, .ref o2), (3, .ref o1), (2, .ref (a 0)), (1, .ref (B 9 0)), (0, .ref b)] → W p l e room_1 s m args below meth c H locs (cells + 3) (slots + 18) Q (F0 m 2403 ls [])) → W p l e room_1 s m args below meth c H locs cells slots Q (F0 m 1301 ls []) := by
  intro S M f1 f2 ls H locs cells slots hcc hcs hR hP hD hS hl kk
  have hD0 := hD
  obtain ⟨hx, hb, hr, hml, hts, hown, hlocks, hK0⟩ := id C
  have hK := hK0.1
  refine lv_aload_n hx hb dL_law_1301 rfl (lv_at hl 4 rfl) ?_
  refine lv_aload_n hx hb dL_law_1302 rfl (lv_at hl 5 rfl) ?_
  refine lv_iload hx hb dL_law_1303 (lv_at hl 0 rfl) ?_
  refine lv_iconst (v := 1) hx hb dL_law_1305 (by decide) ?_
  refine lv_iadd hx hb dL_law_1306 ?_
  refine va_sld hx hb hX hbl hbA hS h1 dL_law_1307 ?_
  refine lv_aload_n hx hb dL_law_1308 rfl (lv_at hl 5 rfl) ?_
  refine lv_iload hx hb dL_law_1309 (lv_at hl 0 rfl) ?_
  refine lv_iconst (v := 2) hx hb dL_law_1311 (by decide) ?_
  refine lv_iadd hx hb dL_law_1312 ?_
  refine va_sld hx hb hX hbl hbA hS h2 dL_law_1313 ?_
  refine lv_aload_n hx hb dL_law_1314 rfl (lv_at hl 5 rfl) ?_
  refine lv_iload hx hb dL_law_1315 (lv_at hl 0 rfl) ?_
  refine lv_iconst (v := 3) hx hb dL_law_1317 (by decide) ?_
  refine lv_iadd hx hb dL_law_1318 ?_
  refine va_sld hx hb hX hbl hbA hS h3 dL_law_1319 ?_
  refine lv_if_eq (tgt := 1327) hx hb dL_law_1320 (by decide) (fun cz => ?_) (fun cz => ?_)
  · refine lv_iconst (v := 0) hx hb dL_law_1327 (by decide) ?_
    refine lv_aload_n hx hb dL_law_1328 rfl (lv_at hl 2 rfl) ?_
    obtain ⟨N1, rc, N2, rm, e1, e2, hk, ht, hv, hR2⟩ := hE S M (xs (nI i + 1).toNatClampNeg) (xs (nI i + 2).toNatClampNeg) 0 hR
    rw [lwW_1] at hP hD
    refine jSh C dL_law_1329 (kh_waiting l hl0 D G B ks va o1 f1 N1 S (xs (nI i + 1).toNatClampNeg) (xs (nI i + 2).toNatClampNeg) 0 rc e1 hk) hy_waiting jq_34_5 jq_34_6 ⟨Nat.le_of_ble_eq_true rfl, Nat.le_of_ble_eq_true rfl⟩ ⟨by show cells + 2 ≤ 603072; omega, by show slots + 12 ≤ 7174250; omega⟩ hZ hC (jMidP (pre := wM a G M) (mid := wTS B G S ++ [((o1, .inl (G 3, 1, .inr (.inl f1))) : Nat × va_E)]) (post := [((o2, .inl (G 4, 1, .inr (.inr (.inr (.inl f2))))) : Nat × va_E)]) hP) (jMidD (pre := wM a G M) (mid := wTS B G S ++ [((o1, .inl (G 3, 1, .inr (.inl f1))) : Nat × va_E)]) (post := [((o2, .inl (G 4, 1, .inr (.inr (.inr (.inl f2))))) : Nat × va_E)]) hD) hA hS hl (As := [.ref (B 9 0), .int (xs (nI i + 1).toNatClampNeg), .int (xs (nI i + 2).toNatClampNeg), .int 0, .ref o1]) (rest := []) rfl (Nat.le_of_ble_eq_true rfl) (fun H1 locs hQ hz hkp hS => ?_)
    have hP := jMidJoin (pre := wM a G M) (mid := wTS B G S ++ [((o1, .inl (G 3, 1, .inr (.inl f1))) : Nat × va_E)]) (mid' := wTS B G rc.2.2 ++ [((o1, .inl (G 3, 1, .inr (.inl (hO rc.1 f1 rc.2.1)))) : Nat × va_E)]) (post := [((o2, .inl (G 4, 1, .inr (.inr (.inr (.inl f2))))) : Nat × va_E)]) hP hD hkp hQ
    have hP : va_P D vwCl (lwW a B G o1 o2 rc.2.2 M (hO rc.1 f1 rc.2.1) f2) H1 := by rw [lwW_1]; exact hP
    have hD : va_D A (lwW a B G o1 o2 rc.2.2 M (hO rc.1 f1 rc.2.1) f2) := lwD hD0
    clear hQ hz hkp
    generalize H1 = H at hP hS ⊢
    refine W.widen (k := cells + 3) (n := slots + 18) (show cells + 2 ≤ cells + 3 by omega) (show slots + 12 ≤ slots + 18 by omega) ?_
    refine lv_istore (lv' := [(6, .int (hk_waiting rc.1)), (5, .int (nI i)), (4, .ref o2), (3, .ref o1), (2, .ref (a 0)), (1, .ref (B 9 0)), (0, .ref b)]) hx hb dL_law_1332 hl (by decide) rfl (fun ls hl => ?_)
    refine lv_aload_n hx hb dL_law_1334 rfl (lv_at hl 4 rfl) ?_
    refine lv_aload_n hx hb dL_law_1335 rfl (lv_at hl 6 rfl) ?_
    refine lv_iload hx hb dL_law_1336 (lv_at hl 1 rfl) ?_
    refine lv_iconst (v := 1) hx hb dL_law_1338 (by decide) ?_
    refine lv_iadd hx hb dL_law_1339 ?_
    refine va_sld hx hb hX hbl hbA hS h1 dL_law_1340 ?_
    refine lv_aload_n hx hb dL_law_1341 rfl (lv_at hl 6 rfl) ?_
    refine lv_iload hx hb dL_law_1342 (lv_at hl 1 rfl) ?_
    refine lv_iconst (v := 2) hx hb dL_law_1344 (by decide) ?_
    refine lv_iadd hx hb dL_law_1345 ?_
    refine va_sld hx hb hX hbl hbA hS h2 dL_law_1346 ?_
    refine lv_aload_n hx hb dL_law_1347 rfl (lv_at hl 6 rfl) ?_
    refine lv_iload hx hb dL_law_1348 (lv_at hl 1 rfl) ?_
    refine lv_iconst (v := 3) hx hb dL_law_1350 (by decide) ?_
    refine lv_iadd hx hb dL_law_1351 ?_
    refine va_sld hx hb hX hbl hbA hS h3 dL_law_1352 ?_
    refine lv_if_eq (tgt := 1360) hx hb dL_law_1353 (by decide) (fun _ => ?_) (fun h => absurd cz h)
    refine lv_iconst (v := 0) hx hb dL_law_1360 (by decide) ?_
    refine jVmI C dL_law_1361 (k_X9_waiting l D G a N2 M (xs (nI i + 1).toNatClampNeg) (xs (nI i + 2).toNatClampNeg) 0 rm e2) jy_X9_waiting jq_34_13 jq_34_14 jq_34_15 ⟨rfl, rfl, Nat.le_of_ble_eq_true rfl, Nat.le_of_ble_eq_true rfl⟩ ⟨by show cells + 3 ≤ 603072; omega, by show slots + 18 ≤ 7174250; omega⟩ (jMidP (pre := []) (mid := wM a G M) (post := wTS B G rc.2.2 ++ ([((o1, .inl (G 3, 1, .inr (.inl (hO rc.1 f1 rc.2.1)))) : Nat × va_E)] ++ [((o2, .inl (G 4, 1, .inr (.inr (.inr (.inl f2))))) : Nat × va_E)])) hP) (jMidD (pre := []) (mid := wM a G M) (post := wTS B G rc.2.2 ++ ([((o1, .inl (G 3, 1, .inr (.inl (hO rc.1 f1 rc.2.1)))) : Nat × va_E)] ++ [((o2, .inl (G 4, 1, .inr (.inr (.inr (.inl f2))))) : Nat × va_E)])) hD) hA hS (ci := 11) (iw := 0) rfl rfl rfl hl (As := [.int (xs (nI i + 1).toNatClampNeg), .int (xs (nI i + 2).toNatClampNeg), .int 0]) (rest := []) rfl (Nat.le_of_ble_eq_true rfl) (fun H1 locs hQ hz hkp hS => ?_)
    have hP : va_P D vwCl (lwW a B G o1 o2 rc.2.2 rm.2 (hO rc.1 f1 rc.2.1) f2) H1 := jMidJoin (pre := []) (mid := wM a G M) (mid' := wM a G rm.2) (post := wTS B G rc.2.2 ++ ([((o1, .inl (G 3, 1, .inr (.inl (hO rc.1 f1 rc.2.1)))) : Nat × va_E)] ++ [((o2, .inl (G 4, 1, .inr (.inr (.inr (.inl f2))))) : Nat × va_E)])) hP hD hkp hQ
    have hD : va_D A (lwW a B G o1 o2 rc.2.2 rm.2 (hO rc.1 f1 rc.2.1) f2) := lwD hD0
    clear hQ hz hkp
    generalize H1 = H at hP hS ⊢
    refine lv_istore (lv' := [(7, .int rm.1), (6, .int (hk_waiting rc.1)), (5, .int (nI i)), (4, .ref o2), (3, .ref o1), (2, .ref (a 0)), (1, .ref (B 9 0)), (0, .ref b)]) hx hb dL_law_1364 hl (by decide) rfl (fun ls hl => ?_)
    refine lv_aload_n hx hb dL_law_1366 rfl (lv_at hl 5 rfl) ?_
    refine jVpI C dL_law_1367 (k_X9_thrown l D G a N2 rm.2 (rm.2 0 0) rfl) jy_X9_thrown jq_15_8 jq_15_9 jq_15_10 ⟨rfl, rfl, Nat.le_of_ble_eq_true rfl, Nat.le_of_ble_eq_true rfl⟩ ⟨by show cells + 3 ≤ 603072; omega, by show slots + 18 ≤ 7174250; omega⟩ (jMidP (pre := []) (mid := wM a G rm.2) (post := wTS B G rc.2.2 ++ ([((o1, .inl (G 3, 1, .inr (.inl (hO rc.1 f1 rc.2.1)))) : Nat × va_E)] ++ [((o2, .inl (G 4, 1, .inr (.inr (.inr (.inl f2))))) : Nat × va_E)])) hP) (ci := 11) (iw := 0) rfl rfl rfl hl (As := []) (rest := []) rfl (Nat.le_of_ble_eq_true rfl) ?_
    refine lv_iload hx hb dL_law_1370 (lv_at hl 1 rfl) ?_
    refine lv_icmp_eq (tgt := 1377) hx hb dL_law_1372 (by decide) (fun _ => ?_) (fun h => absurd ht h)
    refine lv_iload hx hb dL_law_1377 (lv_at hl 1 rfl) ?_
    refine lv_if_ne (tgt := 1394) hx hb dL_law_1379 (by decide) (fun _ => ?_) (fun hz0 => ?_)
    · refine lv_goto (tgt := 2403) hx hb dL_law_1394 (by decide) ?_
      exact kk rc.2.2 rm.2 (hO rc.1 f1 rc.2.1) f2 ls H locs hR2 hP hD hS (lv_sub hl [2, 3, 4, 5, 6, 7] rfl)
    · have hk0 : rc.1 = 0 := by
        rcases hk with hk | hk | hk
        · exact hk
        · rw [hk] at hz0; exact absurd hz0 (by decide)
        · rw [hk] at hz0; exact absurd hz0 (by decide)
      refine lv_aload_n hx hb dL_law_1382 rfl (lv_at hl 4 rfl) ?_
      refine lv_iconst (v := 0) hx hb dL_law_1383 (by decide) ?_
      rw [lwW_1] at hP
      refine va_lald (n := 1) hx hb hK hP ((wM a G rm.2).length + (wTS B G rc.2.2).length) 3 (jAt1 _ _ _ _) rfl (inb_of (by decide)) dL_law_1384 ?_
      rw [← lwW_1] at hP
      refine lv_iload hx hb dL_law_1385 (lv_at hl 0 rfl) ?_
      refine lv_i2l hx hb dL_law_1387 rfl ?_
      refine W.lcmp hx hb dL_law_1388 ?_
      have hzz : lg_cmp ((hO rc.1 f1 rc.2.1) (0 : Int32).toNatClampNeg) rm.1.toInt64 = 0 := lgc (by unfold hO; rw [if_pos hk0, hv hk0]; rfl)
      refine lv_if_eq (tgt := 1394) hx hb dL_law_1389 (by decide) (fun _ => ?_) (fun h => absurd hzz h)
      refine lv_goto (tgt := 2403) hx hb dL_law_1394 (by decide) ?_
      exact kk rc.2.2 rm.2 (hO rc.1 f1 rc.2.1) f2 ls H locs hR2 hP hD hS (lv_sub hl [2, 3, 4, 5, 6, 7] rfl)
  · refine lv_iconst (v := 1) hx hb dL_law_1323 (by decide) ?_
    refine lv_goto (tgt := 1328) hx hb dL_law_1324 (by decide) ?_
    refine lv_aload_n hx hb dL_law_1328 rfl (lv_at hl 2 rfl) ?_
    obtain ⟨N1, rc, N2, rm, e1, e2, hk, ht, hv, hR2⟩ := hE S M (xs (nI i + 1).toNatClampNeg) (xs (nI i + 2).toNatClampNeg) 1 hR
    rw [lwW_1] at hP hD
    refine jSh C dL_law_1329 (kh_waiting l hl0 D G B ks va o1 f1 N1 S (xs (nI i + 1).toNatClampNeg) (xs (nI i + 2).toNatClampNeg) 1 rc e1 hk) hy_waiting jq_34_5 jq_34_6 ⟨Nat.le_of_ble_eq_true rfl, Nat.le_of_ble_eq_true rfl⟩ ⟨by show cells + 2 ≤ 603072; omega, by show slots + 12 ≤ 7174250; omega⟩ hZ hC (jMidP (pre := wM a G M) (mid := wTS B G S ++ [((o1, .inl (G 3, 1, .inr (.inl f1))) : Nat × va_E)]) (post := [((o2, .inl (G 4, 1, .inr (.inr (.inr (.inl f2))))) : Nat × va_E)]) hP) (jMidD (pre := wM a G M) (mid := wTS B G S ++ [((o1, .inl (G 3, 1, .inr (.inl f1))) : Nat × va_E)]) (post := [((o2, .inl (G 4, 1, .inr (.inr (.inr (.inl f2))))) : Nat × va_E)]) hD) hA hS hl (As := [.ref (B 9 0), .int (xs (nI i + 1).toNatClampNeg), .int (xs (nI i + 2).toNatClampNeg), .int 1, .ref o1]) (rest := []) rfl (Nat.le_of_ble_eq_true rfl) (fun H1 locs hQ hz hkp hS => ?_)
    have hP := jMidJoin (pre := wM a G M) (mid := wTS B G S ++ [((o1, .inl (G 3, 1, .inr (.inl f1))) : Nat × va_E)]) (mid' := wTS B G rc.2.2 ++ [((o1, .inl (G 3, 1, .inr (.inl (hO rc.1 f1 rc.2.1)))) : Nat × va_E)]) (post := [((o2, .inl (G 4, 1, .inr (.inr (.inr (.inl f2))))) : Nat × va_E)]) hP hD hkp hQ
    have hP : va_P D vwCl (lwW a B G o1 o2 rc.2.2 M (hO rc.1 f1 rc.2.1) f2) H1 := by rw [lwW_1]; exact hP
    have hD : va_D A (lwW a B G o1 o2 rc.2.2 M (hO rc.1 f1 rc.2.1) f2) := lwD hD0
    clear hQ hz hkp
    generalize H1 = H at hP hS ⊢
    refine W.widen (k := cells + 3) (n := slots + 18) (show cells + 2 ≤ cells + 3 by omega) (show slots + 12 ≤ slots + 18 by omega) ?_
    refine lv_istore (lv' := [(6, .int (hk_waiting rc.1)), (5, .int (nI i)), (4, .ref o2), (3, .ref o1), (2, .ref (a 0)), (1, .ref (B 9 0)), (0, .ref b)]) hx hb dL_law_1332 hl (by decide) rfl (fun ls hl => ?_)
    refine lv_aload_n hx hb dL_law_1334 rfl (lv_at hl 4 rfl) ?_
    refine lv_aload_n hx hb dL_law_1335 rfl (lv_at hl 6 rfl) ?_
    refine lv_iload hx hb dL_law_1336 (lv_at hl 1 rfl) ?_
    refine lv_iconst (v := 1) hx hb dL_law_1338 (by decide) ?_
    refine lv_iadd hx hb dL_law_1339 ?_
    refine va_sld hx hb hX hbl hbA hS h1 dL_law_1340 ?_
    refine lv_aload_n hx hb dL_law_1341 rfl (lv_at hl 6 rfl) ?_
    refine lv_iload hx hb dL_law_1342 (lv_at hl 1 rfl) ?_
    refine lv_iconst (v := 2) hx hb dL_law_1344 (by decide) ?_
    refine lv_iadd hx hb dL_law_1345 ?_
    refine va_sld hx hb hX hbl hbA hS h2 dL_law_1346 ?_
    refine lv_aload_n hx hb dL_law_1347 rfl (lv_at hl 6 rfl) ?_
    refine lv_iload hx hb dL_law_1348 (lv_at hl 1 rfl) ?_
    refine lv_iconst (v := 3) hx hb dL_law_1350 (by decide) ?_
    refine lv_iadd hx hb dL_law_1351 ?_
    refine va_sld hx hb hX hbl hbA hS h3 dL_law_1352 ?_
    refine lv_if_eq (tgt := 1360) hx hb dL_law_1353 (by decide) (fun h => absurd h cz) (fun _ => ?_)
    refine lv_iconst (v := 1) hx hb dL_law_1356 (by decide) ?_
    refine lv_goto (tgt := 1361) hx hb dL_law_1357 (by decide) ?_
    refine jVmI C dL_law_1361 (k_X9_waiting l D G a N2 M (xs (nI i + 1).toNatClampNeg) (xs (nI i + 2).toNatClampNeg) 1 rm e2) jy_X9_waiting jq_34_13 jq_34_14 jq_34_15 ⟨rfl, rfl, Nat.le_of_ble_eq_true rfl, Nat.le_of_ble_eq_true rfl⟩ ⟨by show cells + 3 ≤ 603072; omega, by show slots + 18 ≤ 7174250; omega⟩ (jMidP (pre := []) (mid := wM a G M) (post := wTS B G rc.2.2 ++ ([((o1, .inl (G 3, 1, .inr (.inl (hO rc.1 f1 rc.2.1)))) : Nat × va_E)] ++ [((o2, .inl (G 4, 1, .inr (.inr (.inr (.inl f2))))) : Nat × va_E)])) hP) (jMidD (pre := []) (mid := wM a G M) (post := wTS B G rc.2.2 ++ ([((o1, .inl (G 3, 1, .inr (.inl (hO rc.1 f1 rc.2.1)))) : Nat × va_E)] ++ [((o2, .inl (G 4, 1, .inr (.inr (.inr (.inl f2))))) : Nat × va_E)])) hD) hA hS (ci := 11) (iw := 0) rfl rfl rfl hl (As := [.int (xs (nI i + 1).toNatClampNeg), .int (xs (nI i + 2).toNatClampNeg), .int 1]) (rest := []) rfl (Nat.le_of_ble_eq_true rfl) (fun H1 locs hQ hz hkp hS => ?_)
    have hP : va_P D vwCl (lwW a B G o1 o2 rc.2.2 rm.2 (hO rc.1 f1 rc.2.1) f2) H1 := jMidJoin (pre := []) (mid := wM a G M) (mid' := wM a G rm.2) (post := wTS B G rc.2.2 ++ ([((o1, .inl (G 3, 1, .inr (.inl (hO rc.1 f1 rc.2.1)))) : Nat × va_E)] ++ [((o2, .inl (G 4, 1, .inr (.inr (.inr (.inl f2))))) : Nat × va_E)])) hP hD hkp hQ
    have hD : va_D A (lwW a B G o1 o2 rc.2.2 rm.2 (hO rc.1 f1 rc.2.1) f2) := lwD hD0
    clear hQ hz hkp
    generalize H1 = H at hP hS ⊢
    refine lv_istore (lv' := [(7, .int rm.1), (6, .int (hk_waiting rc.1)), (5, .int (nI i)), (4, .ref o2), (3, .ref o1), (2, .ref (a 0)), (1, .ref (B 9 0)), (0, .ref b)]) hx hb dL_law_1364 hl (by decide) rfl (fun ls hl => ?_)
    refine lv_aload_n hx hb dL_law_1366 rfl (lv_at hl 5 rfl) ?_
    refine jVpI C dL_law_1367 (k_X9_thrown l D G a N2 rm.2 (rm.2 0 0) rfl) jy_X9_thrown jq_15_8 jq_15_9 jq_15_10 ⟨rfl, rfl, Nat.le_of_ble_eq_true rfl, Nat.le_of_ble_eq_true rfl⟩ ⟨by show cells + 3 ≤ 603072; omega, by show slots + 18 ≤ 7174250; omega⟩ (jMidP (pre := []) (mid := wM a G rm.2) (post := wTS B G rc.2.2 ++ ([((o1, .inl (G 3, 1, .inr (.inl (hO rc.1 f1 rc.2.1)))) : Nat × va_E)] ++ [((o2, .inl (G 4, 1, .inr (.inr (.inr (.inl f2))))) : Nat × va_E)])) hP) (ci := 11) (iw := 0) rfl rfl rfl hl (As := []) (rest := []) rfl (Nat.le_of_ble_eq_true rfl) ?_
    refine lv_iload hx hb dL_law_1370 (lv_at hl 1 rfl) ?_
    refine lv_icmp_eq (tgt := 1377) hx hb dL_law_1372 (by decide) (fun _ => ?_) (fun h => absurd ht h)
    refine lv_iload hx hb dL_law_1377 (lv_at hl 1 rfl) ?_
    refine lv_if_ne (tgt := 1394) hx hb dL_law_1379 (by decide) (fun _ => ?_) (fun hz0 => ?_)
    · refine lv_goto (tgt := 2403) hx hb dL_law_1394 (by decide) ?_
      exact kk rc.2.2 rm.2 (hO rc.1 f1 rc.2.1) f2 ls H locs hR2 hP hD hS (lv_sub hl [2, 3, 4, 5, 6, 7] rfl)
    · have hk0 : rc.1 = 0 := by
        rcases hk with hk | hk | hk
        · exact hk
        · rw [hk] at hz0; exact absurd hz0 (by decide)
        · rw [hk] at hz0; exact absurd hz0 (by decide)
      refine lv_aload_n hx hb dL_law_1382 rfl (lv_at hl 4 rfl) ?_
      refine lv_iconst (v := 0) hx hb dL_law_1383 (by decide) ?_
      rw [lwW_1] at hP
      refine va_lald (n := 1) hx hb hK hP ((wM a G rm.2).length + (wTS B G rc.2.2).length) 3 (jAt1 _ _ _ _) rfl (inb_of (by decide)) dL_law_1384 ?_
      rw [← lwW_1] at hP
      refine lv_iload hx hb dL_law_1385 (lv_at hl 0 rfl) ?_
      refine lv_i2l hx hb dL_law_1387 rfl ?_
      refine W.lcmp hx hb dL_law_1388 ?_
      have hzz : lg_cmp ((hO rc.1 f1 rc.2.1) (0 : Int32).toNatClampNeg) rm.1.toInt64 = 0 := lgc (by unfold hO; rw [if_pos hk0, hv hk0]; rfl)
      refine lv_if_eq (tgt := 1394) hx hb dL_law_1389 (by decide) (fun _ => ?_) (fun h => absurd hzz h)
      refine lv_goto (tgt := 2403) hx hb dL_law_1394 (by decide) ?_
      exact kk rc.2.2 rm.2 (hO rc.1 f1 rc.2.1) f2 ls H locs hR2 hP hD hS (lv_sub hl [2, 3, 4, 5, 6, 7] rfl)
def jE_seats (Rl : (Nat → Nat → Nat → Int32) → (Nat → Nat → Int32) → Prop) : Prop := ∀ (S : Nat → Nat → Nat → Int32) (M : Nat → Nat → Int32) (v1 v2 : Int32), Rl S M → ∃ (N1 : Nat) (rc : _) (N2 : Nat) (rm : _), F_X8_seats N1 S v1 v2 = some rc ∧ F_X9_seats N2 M v1 v2 = some rm ∧ (rc.1 = 0 ∨ rc.1 = 2) ∧ rm.2 0 0 = hk_seats rc.1 ∧ (rc.1 = 0 → rc.2.1 = rm.1) ∧ Rl rc.2.2 rm.2
theorem hy_seats : hY yL_seats cL_seats 5 [(0, 10, 13, 15)] 4 := ⟨by decide +kernel, jq_34_19, jq_6_7⟩
set_option maxHeartbeats 4000000 in
set_option maxRecDepth 100000 in
theorem lc_seats {p : Program} {l : Launch} {e : Env} {s : State} {m : MethodId} {args : Array Value} {below : List Frame} {meth : Method} {c : Code} {Q : State → Prop} {D : va_G} {G : Nat → ClassId} {A : Nat → Prop} {ks va : Nat → Nat} {b L i : Nat} {xs : Nat → Int32} {a : Nat → Nat} {B : Nat → Nat → Nat} {o1 o2 : Nat} {Rl : (Nat → Nat → Nat → Int32) → (Nat → Nat → Int32) → Prop} {ret : Option FieldType}
    (C : Cx p s m args meth c cL_law 9 RL ret D G) (hl0 : l.stackTraces = false) (hZ : jZ ks va A s s.heap) (hC : jC s) (hA : ∀ q : Nat, s.heap.size ≤ q → A q) (hX : va_X b L xs s s.heap) (hbl : b < s.heap.size) (hbA : ¬ A b) (h0 : vp_in (nI i) L) (h1 : vp_in (nI i + 1) L) (h2 : vp_in (nI i + 2) L) (h3 : vp_in (nI i + 3) L) (h4 : vp_in (nI i + 4) L) (hE : jE_seats Rl) : ∀ (S : Nat → Nat → Nat → Int32) (M : Nat → Nat → Int32) (f1 : Nat → Int64) (f2 : Nat → UInt64) (ls : Array Slot) (H : Heap) (locs : List Loc) (cells slots : Nat), cells + 3 ≤ 603072 → slots + 18 ≤ 7174250 → Rl S M → va_P D vwCl (lwW a B G o1 o2 S M f1 f2) H → va_D A (lwW a B G o1 o2 S M f1 f2) → va_S A s.heap H locs → lv_has ls 9 [(5, .int (nI i)), (4, .ref o2), (3, .ref o1), (2, .ref (a 0)), (1, .ref (B 9 0)), (0, .ref b)] → (∀ (S : Nat → Nat → Nat → Int32) (M : Nat → Nat → Int32) (f1 : Nat → Int64) (f2 : Nat → UInt64) (ls : Array Slot) (H : Heap) (locs : List Loc), Rl S M → va_P D vwCl (lwW a B G o1 o2 S M f1 f2) H → va_D A (lwW a B G o1 o2 S M f1 f2) → va_S A s.heap H locs → lv_has ls 9 [(5, .int (nI i)), (4, .ref o2), (3, .ref o1), (2, .ref (a 0)), (1, .ref (B 9 0)), (0, .ref b)] → W p l e room_1 s m args below meth c H locs (cells + 3) (slots + 18) Q (F0 m 2403 ls [])) → W p l e room_1 s m args below meth c H locs cells slots Q (F0 m 1397 ls []) := by
  intro S M f1 f2 ls H locs cells slots hcc hcs hR hP hD hS hl kk
  have hD0 := hD
  obtain ⟨hx, hb, hr, hml, hts, hown, hlocks, hK0⟩ := id C
  have hK := hK0.1
  refine lv_aload_n hx hb dL_law_1397 rfl (lv_at hl 4 rfl) ?_
  refine lv_aload_n hx hb dL_law_1398 rfl (lv_at hl 5 rfl) ?_
  refine lv_iload hx hb dL_law_1399 (lv_at hl 0 rfl) ?_
  refine lv_iconst (v := 1) hx hb dL_law_1401 (by decide) ?_
  refine lv_iadd hx hb dL_law_1402 ?_
  refine va_sld hx hb hX hbl hbA hS h1 dL_law_1403 ?_
  refine lv_aload_n hx hb dL_law_1404 rfl (lv_at hl 5 rfl) ?_
  refine lv_iload hx hb dL_law_1405 (lv_at hl 0 rfl) ?_
  refine lv_iconst (v := 2) hx hb dL_law_1407 (by decide) ?_
  refine lv_iadd hx hb dL_law_1408 ?_
  refine va_sld hx hb hX hbl hbA hS h2 dL_law_1409 ?_
  refine lv_aload_n hx hb dL_law_1410 rfl (lv_at hl 2 rfl) ?_
  obtain ⟨N1, rc, N2, rm, e1, e2, hk, ht, hv, hR2⟩ := hE S M (xs (nI i + 1).toNatClampNeg) (xs (nI i + 2).toNatClampNeg) hR
  rw [lwW_1] at hP hD
  refine jSh C dL_law_1411 (kh_seats l hl0 D G B ks va o1 f1 N1 S (xs (nI i + 1).toNatClampNeg) (xs (nI i + 2).toNatClampNeg) rc e1 hk) hy_seats jq_34_17 jq_34_18 ⟨Nat.le_of_ble_eq_true rfl, Nat.le_of_ble_eq_true rfl⟩ ⟨by show cells + 1 ≤ 603072; omega, by show slots + 6 ≤ 7174250; omega⟩ hZ hC (jMidP (pre := wM a G M) (mid := wTS B G S ++ [((o1, .inl (G 3, 1, .inr (.inl f1))) : Nat × va_E)]) (post := [((o2, .inl (G 4, 1, .inr (.inr (.inr (.inl f2))))) : Nat × va_E)]) hP) (jMidD (pre := wM a G M) (mid := wTS B G S ++ [((o1, .inl (G 3, 1, .inr (.inl f1))) : Nat × va_E)]) (post := [((o2, .inl (G 4, 1, .inr (.inr (.inr (.inl f2))))) : Nat × va_E)]) hD) hA hS hl (As := [.ref (B 9 0), .int (xs (nI i + 1).toNatClampNeg), .int (xs (nI i + 2).toNatClampNeg), .ref o1]) (rest := []) rfl (Nat.le_of_ble_eq_true rfl) (fun H1 locs hQ hz hkp hS => ?_)
  have hP := jMidJoin (pre := wM a G M) (mid := wTS B G S ++ [((o1, .inl (G 3, 1, .inr (.inl f1))) : Nat × va_E)]) (mid' := wTS B G rc.2.2 ++ [((o1, .inl (G 3, 1, .inr (.inl (hO rc.1 f1 rc.2.1)))) : Nat × va_E)]) (post := [((o2, .inl (G 4, 1, .inr (.inr (.inr (.inl f2))))) : Nat × va_E)]) hP hD hkp hQ
  have hP : va_P D vwCl (lwW a B G o1 o2 rc.2.2 M (hO rc.1 f1 rc.2.1) f2) H1 := by rw [lwW_1]; exact hP
  have hD : va_D A (lwW a B G o1 o2 rc.2.2 M (hO rc.1 f1 rc.2.1) f2) := lwD hD0
  clear hQ hz hkp
  generalize H1 = H at hP hS ⊢
  refine W.widen (k := cells + 3) (n := slots + 18) (show cells + 1 ≤ cells + 3 by omega) (show slots + 6 ≤ slots + 18 by omega) ?_
  refine lv_istore (lv' := [(6, .int (hk_seats rc.1)), (5, .int (nI i)), (4, .ref o2), (3, .ref o1), (2, .ref (a 0)), (1, .ref (B 9 0)), (0, .ref b)]) hx hb dL_law_1414 hl (by decide) rfl (fun ls hl => ?_)
  refine lv_aload_n hx hb dL_law_1416 rfl (lv_at hl 4 rfl) ?_
  refine lv_aload_n hx hb dL_law_1417 rfl (lv_at hl 6 rfl) ?_
  refine lv_iload hx hb dL_law_1418 (lv_at hl 1 rfl) ?_
  refine lv_iconst (v := 1) hx hb dL_law_1420 (by decide) ?_
  refine lv_iadd hx hb dL_law_1421 ?_
  refine va_sld hx hb hX hbl hbA hS h1 dL_law_1422 ?_
  refine lv_aload_n hx hb dL_law_1423 rfl (lv_at hl 6 rfl) ?_
  refine lv_iload hx hb dL_law_1424 (lv_at hl 1 rfl) ?_
  refine lv_iconst (v := 2) hx hb dL_law_1426 (by decide) ?_
  refine lv_iadd hx hb dL_law_1427 ?_
  refine va_sld hx hb hX hbl hbA hS h2 dL_law_1428 ?_
  refine jVmI C dL_law_1429 (k_X9_seats l D G a N2 M (xs (nI i + 1).toNatClampNeg) (xs (nI i + 2).toNatClampNeg) rm e2) jy_X9_seats jq_35_3 jq_35_4 jq_35_5 ⟨rfl, rfl, Nat.le_of_ble_eq_true rfl, Nat.le_of_ble_eq_true rfl⟩ ⟨by show cells + 3 ≤ 603072; omega, by show slots + 18 ≤ 7174250; omega⟩ (jMidP (pre := []) (mid := wM a G M) (post := wTS B G rc.2.2 ++ ([((o1, .inl (G 3, 1, .inr (.inl (hO rc.1 f1 rc.2.1)))) : Nat × va_E)] ++ [((o2, .inl (G 4, 1, .inr (.inr (.inr (.inl f2))))) : Nat × va_E)])) hP) (jMidD (pre := []) (mid := wM a G M) (post := wTS B G rc.2.2 ++ ([((o1, .inl (G 3, 1, .inr (.inl (hO rc.1 f1 rc.2.1)))) : Nat × va_E)] ++ [((o2, .inl (G 4, 1, .inr (.inr (.inr (.inl f2))))) : Nat × va_E)])) hD) hA hS (ci := 11) (iw := 0) rfl rfl rfl hl (As := [.int (xs (nI i + 1).toNatClampNeg), .int (xs (nI i + 2).toNatClampNeg)]) (rest := []) rfl (Nat.le_of_ble_eq_true rfl) (fun H1 locs hQ hz hkp hS => ?_)
  have hP : va_P D vwCl (lwW a B G o1 o2 rc.2.2 rm.2 (hO rc.1 f1 rc.2.1) f2) H1 := jMidJoin (pre := []) (mid := wM a G M) (mid' := wM a G rm.2) (post := wTS B G rc.2.2 ++ ([((o1, .inl (G 3, 1, .inr (.inl (hO rc.1 f1 rc.2.1)))) : Nat × va_E)] ++ [((o2, .inl (G 4, 1, .inr (.inr (.inr (.inl f2))))) : Nat × va_E)])) hP hD hkp hQ
  have hD : va_D A (lwW a B G o1 o2 rc.2.2 rm.2 (hO rc.1 f1 rc.2.1) f2) := lwD hD0
  clear hQ hz hkp
  generalize H1 = H at hP hS ⊢
  refine lv_istore (lv' := [(7, .int rm.1), (6, .int (hk_seats rc.1)), (5, .int (nI i)), (4, .ref o2), (3, .ref o1), (2, .ref (a 0)), (1, .ref (B 9 0)), (0, .ref b)]) hx hb dL_law_1432 hl (by decide) rfl (fun ls hl => ?_)
  refine lv_aload_n hx hb dL_law_1434 rfl (lv_at hl 5 rfl) ?_
  refine jVpI C dL_law_1435 (k_X9_thrown l D G a N2 rm.2 (rm.2 0 0) rfl) jy_X9_thrown jq_15_8 jq_15_9 jq_15_10 ⟨rfl, rfl, Nat.le_of_ble_eq_true rfl, Nat.le_of_ble_eq_true rfl⟩ ⟨by show cells + 3 ≤ 603072; omega, by show slots + 18 ≤ 7174250; omega⟩ (jMidP (pre := []) (mid := wM a G rm.2) (post := wTS B G rc.2.2 ++ ([((o1, .inl (G 3, 1, .inr (.inl (hO rc.1 f1 rc.2.1)))) : Nat × va_E)] ++ [((o2, .inl (G 4, 1, .inr (.inr (.inr (.inl f2))))) : Nat × va_E)])) hP) (ci := 11) (iw := 0) rfl rfl rfl hl (As := []) (rest := []) rfl (Nat.le_of_ble_eq_true rfl) ?_
  refine lv_iload hx hb dL_law_1438 (lv_at hl 1 rfl) ?_
  refine lv_icmp_eq (tgt := 1445) hx hb dL_law_1440 (by decide) (fun _ => ?_) (fun h => absurd ht h)
  refine lv_iload hx hb dL_law_1445 (lv_at hl 1 rfl) ?_
  refine lv_if_ne (tgt := 1462) hx hb dL_law_1447 (by decide) (fun _ => ?_) (fun hz0 => ?_)
  · refine lv_goto (tgt := 2403) hx hb dL_law_1462 (by decide) ?_
    exact kk rc.2.2 rm.2 (hO rc.1 f1 rc.2.1) f2 ls H locs hR2 hP hD hS (lv_sub hl [2, 3, 4, 5, 6, 7] rfl)
  · have hk0 : rc.1 = 0 := by
      rcases hk with hk | hk
      · exact hk
      · rw [hk] at hz0; exact absurd hz0 (by decide)
    refine lv_aload_n hx hb dL_law_1450 rfl (lv_at hl 4 rfl) ?_
    refine lv_iconst (v := 0) hx hb dL_law_1451 (by decide) ?_
    rw [lwW_1] at hP
    refine va_lald (n := 1) hx hb hK hP ((wM a G rm.2).length + (wTS B G rc.2.2).length) 3 (jAt1 _ _ _ _) rfl (inb_of (by decide)) dL_law_1452 ?_
    rw [← lwW_1] at hP
    refine lv_iload hx hb dL_law_1453 (lv_at hl 0 rfl) ?_
    refine lv_i2l hx hb dL_law_1455 rfl ?_
    refine W.lcmp hx hb dL_law_1456 ?_
    have hzz : lg_cmp ((hO rc.1 f1 rc.2.1) (0 : Int32).toNatClampNeg) rm.1.toInt64 = 0 := lgc (by unfold hO; rw [if_pos hk0, hv hk0]; rfl)
    refine lv_if_eq (tgt := 1462) hx hb dL_law_1457 (by decide) (fun _ => ?_) (fun h => absurd hzz h)
    refine lv_goto (tgt := 2403) hx hb dL_law_1462 (by decide) ?_
    exact kk rc.2.2 rm.2 (hO rc.1 f1 rc.2.1) f2 ls H locs hR2 hP hD hS (lv_sub hl [2, 3, 4, 5, 6, 7] rfl)
def jE_seatsAgain (Rl : (Nat → Nat → Nat → Int32) → (Nat → Nat → Int32) → Prop) : Prop := ∀ (S : Nat → Nat → Nat → Int32) (M : Nat → Nat → Int32) (v1 v2 : Int32), Rl S M → ∃ (N1 : Nat) (rc : _) (N2 : Nat) (rm : _), F_X8_seatsAgain N1 S v1 v2 = some rc ∧ F_X9_seatsAgain N2 M v1 v2 = some rm ∧ (rc.1 = 0 ∨ rc.1 = 2) ∧ rm.2 0 0 = hk_seatsAgain rc.1 ∧ (rc.1 = 0 → rc.2.1 = rm.1) ∧ Rl rc.2.2 rm.2
theorem hy_seatsAgain : hY yL_seatsAgain cL_seatsAgain 5 [(0, 10, 13, 15)] 4 := ⟨by decide +kernel, jq_35_13, jq_6_7⟩
set_option maxHeartbeats 4000000 in
set_option maxRecDepth 100000 in
theorem lc_seatsAgain {p : Program} {l : Launch} {e : Env} {s : State} {m : MethodId} {args : Array Value} {below : List Frame} {meth : Method} {c : Code} {Q : State → Prop} {D : va_G} {G : Nat → ClassId} {A : Nat → Prop} {ks va : Nat → Nat} {b L i : Nat} {xs : Nat → Int32} {a : Nat → Nat} {B : Nat → Nat → Nat} {o1 o2 : Nat} {Rl : (Nat → Nat → Nat → Int32) → (Nat → Nat → Int32) → Prop} {ret : Option FieldType}
    (C : Cx p s m args meth c cL_law 9 RL ret D G) (hl0 : l.stackTraces = false) (hZ : jZ ks va A s s.heap) (hC : jC s) (hA : ∀ q : Nat, s.heap.size ≤ q → A q) (hX : va_X b L xs s s.heap) (hbl : b < s.heap.size) (hbA : ¬ A b) (h0 : vp_in (nI i) L) (h1 : vp_in (nI i + 1) L) (h2 : vp_in (nI i + 2) L) (h3 : vp_in (nI i + 3) L) (h4 : vp_in (nI i + 4) L) (hE : jE_seatsAgain Rl) : ∀ (S : Nat → Nat → Nat → Int32) (M : Nat → Nat → Int32) (f1 : Nat → Int64) (f2 : Nat → UInt64) (ls : Array Slot) (H : Heap) (locs : List Loc) (cells slots : Nat), cells + 3 ≤ 603072 → slots + 18 ≤ 7174250 → Rl S M → va_P D vwCl (lwW a B G o1 o2 S M f1 f2) H → va_D A (lwW a B G o1 o2 S M f1 f2) → va_S A s.heap H locs → lv_has ls 9 [(5, .int (nI i)), (4, .ref o2), (3, .ref o1), (2, .ref (a 0)), (1, .ref (B 9 0)), (0, .ref b)] → (∀ (S : Nat → Nat → Nat → Int32) (M : Nat → Nat → Int32) (f1 : Nat → Int64) (f2 : Nat → UInt64) (ls : Array Slot) (H : Heap) (locs : List Loc), Rl S M → va_P D vwCl (lwW a B G o1 o2 S M f1 f2) H → va_D A (lwW a B G o1 o2 S M f1 f2) → va_S A s.heap H locs → lv_has ls 9 [(5, .int (nI i)), (4, .ref o2), (3, .ref o1), (2, .ref (a 0)), (1, .ref (B 9 0)), (0, .ref b)] → W p l e room_1 s m args below meth c H locs (cells + 3) (slots + 18) Q (F0 m 2403 ls [])) → W p l e room_1 s m args below meth c H locs cells slots Q (F0 m 1465 ls []) := by
  intro S M f1 f2 ls H locs cells slots hcc hcs hR hP hD hS hl kk
  have hD0 := hD
  obtain ⟨hx, hb, hr, hml, hts, hown, hlocks, hK0⟩ := id C
  have hK := hK0.1
  refine lv_aload_n hx hb dL_law_1465 rfl (lv_at hl 4 rfl) ?_
  refine lv_aload_n hx hb dL_law_1466 rfl (lv_at hl 5 rfl) ?_
  refine lv_iload hx hb dL_law_1467 (lv_at hl 0 rfl) ?_
  refine lv_iconst (v := 1) hx hb dL_law_1469 (by decide) ?_
  refine lv_iadd hx hb dL_law_1470 ?_
  refine va_sld hx hb hX hbl hbA hS h1 dL_law_1471 ?_
  refine lv_aload_n hx hb dL_law_1472 rfl (lv_at hl 5 rfl) ?_
  refine lv_iload hx hb dL_law_1473 (lv_at hl 0 rfl) ?_
  refine lv_iconst (v := 2) hx hb dL_law_1475 (by decide) ?_
  refine lv_iadd hx hb dL_law_1476 ?_
  refine va_sld hx hb hX hbl hbA hS h2 dL_law_1477 ?_
  refine lv_aload_n hx hb dL_law_1478 rfl (lv_at hl 2 rfl) ?_
  obtain ⟨N1, rc, N2, rm, e1, e2, hk, ht, hv, hR2⟩ := hE S M (xs (nI i + 1).toNatClampNeg) (xs (nI i + 2).toNatClampNeg) hR
  rw [lwW_1] at hP hD
  refine jSh C dL_law_1479 (kh_seatsAgain l hl0 D G B ks va o1 f1 N1 S (xs (nI i + 1).toNatClampNeg) (xs (nI i + 2).toNatClampNeg) rc e1 hk) hy_seatsAgain jq_35_11 jq_35_12 ⟨Nat.le_of_ble_eq_true rfl, Nat.le_of_ble_eq_true rfl⟩ ⟨by show cells + 1 ≤ 603072; omega, by show slots + 6 ≤ 7174250; omega⟩ hZ hC (jMidP (pre := wM a G M) (mid := wTS B G S ++ [((o1, .inl (G 3, 1, .inr (.inl f1))) : Nat × va_E)]) (post := [((o2, .inl (G 4, 1, .inr (.inr (.inr (.inl f2))))) : Nat × va_E)]) hP) (jMidD (pre := wM a G M) (mid := wTS B G S ++ [((o1, .inl (G 3, 1, .inr (.inl f1))) : Nat × va_E)]) (post := [((o2, .inl (G 4, 1, .inr (.inr (.inr (.inl f2))))) : Nat × va_E)]) hD) hA hS hl (As := [.ref (B 9 0), .int (xs (nI i + 1).toNatClampNeg), .int (xs (nI i + 2).toNatClampNeg), .ref o1]) (rest := []) rfl (Nat.le_of_ble_eq_true rfl) (fun H1 locs hQ hz hkp hS => ?_)
  have hP := jMidJoin (pre := wM a G M) (mid := wTS B G S ++ [((o1, .inl (G 3, 1, .inr (.inl f1))) : Nat × va_E)]) (mid' := wTS B G rc.2.2 ++ [((o1, .inl (G 3, 1, .inr (.inl (hO rc.1 f1 rc.2.1)))) : Nat × va_E)]) (post := [((o2, .inl (G 4, 1, .inr (.inr (.inr (.inl f2))))) : Nat × va_E)]) hP hD hkp hQ
  have hP : va_P D vwCl (lwW a B G o1 o2 rc.2.2 M (hO rc.1 f1 rc.2.1) f2) H1 := by rw [lwW_1]; exact hP
  have hD : va_D A (lwW a B G o1 o2 rc.2.2 M (hO rc.1 f1 rc.2.1) f2) := lwD hD0
  clear hQ hz hkp
  generalize H1 = H at hP hS ⊢
  refine W.widen (k := cells + 3) (n := slots + 18) (show cells + 1 ≤ cells + 3 by omega) (show slots + 6 ≤ slots + 18 by omega) ?_
  refine lv_istore (lv' := [(6, .int (hk_seatsAgain rc.1)), (5, .int (nI i)), (4, .ref o2), (3, .ref o1), (2, .ref (a 0)), (1, .ref (B 9 0)), (0, .ref b)]) hx hb dL_law_1482 hl (by decide) rfl (fun ls hl => ?_)
  refine lv_aload_n hx hb dL_law_1484 rfl (lv_at hl 4 rfl) ?_
  refine lv_aload_n hx hb dL_law_1485 rfl (lv_at hl 6 rfl) ?_
  refine lv_iload hx hb dL_law_1486 (lv_at hl 1 rfl) ?_
  refine lv_iconst (v := 1) hx hb dL_law_1488 (by decide) ?_
  refine lv_iadd hx hb dL_law_1489 ?_
  refine va_sld hx hb hX hbl hbA hS h1 dL_law_1490 ?_
  refine lv_aload_n hx hb dL_law_1491 rfl (lv_at hl 6 rfl) ?_
  refine lv_iload hx hb dL_law_1492 (lv_at hl 1 rfl) ?_
  refine lv_iconst (v := 2) hx hb dL_law_1494 (by decide) ?_
  refine lv_iadd hx hb dL_law_1495 ?_
  refine va_sld hx hb hX hbl hbA hS h2 dL_law_1496 ?_
  refine jVmI C dL_law_1497 (k_X9_seatsAgain l D G a N2 M (xs (nI i + 1).toNatClampNeg) (xs (nI i + 2).toNatClampNeg) rm e2) jy_X9_seatsAgain jq_36_3 jq_36_4 jq_36_5 ⟨rfl, rfl, Nat.le_of_ble_eq_true rfl, Nat.le_of_ble_eq_true rfl⟩ ⟨by show cells + 3 ≤ 603072; omega, by show slots + 18 ≤ 7174250; omega⟩ (jMidP (pre := []) (mid := wM a G M) (post := wTS B G rc.2.2 ++ ([((o1, .inl (G 3, 1, .inr (.inl (hO rc.1 f1 rc.2.1)))) : Nat × va_E)] ++ [((o2, .inl (G 4, 1, .inr (.inr (.inr (.inl f2))))) : Nat × va_E)])) hP) (jMidD (pre := []) (mid := wM a G M) (post := wTS B G rc.2.2 ++ ([((o1, .inl (G 3, 1, .inr (.inl (hO rc.1 f1 rc.2.1)))) : Nat × va_E)] ++ [((o2, .inl (G 4, 1, .inr (.inr (.inr (.inl f2))))) : Nat × va_E)])) hD) hA hS (ci := 11) (iw := 0) rfl rfl rfl hl (As := [.int (xs (nI i + 1).toNatClampNeg), .int (xs (nI i + 2).toNatClampNeg)]) (rest := []) rfl (Nat.le_of_ble_eq_true rfl) (fun H1 locs hQ hz hkp hS => ?_)
  have hP : va_P D vwCl (lwW a B G o1 o2 rc.2.2 rm.2 (hO rc.1 f1 rc.2.1) f2) H1 := jMidJoin (pre := []) (mid := wM a G M) (mid' := wM a G rm.2) (post := wTS B G rc.2.2 ++ ([((o1, .inl (G 3, 1, .inr (.inl (hO rc.1 f1 rc.2.1)))) : Nat × va_E)] ++ [((o2, .inl (G 4, 1, .inr (.inr (.inr (.inl f2))))) : Nat × va_E)])) hP hD hkp hQ
  have hD : va_D A (lwW a B G o1 o2 rc.2.2 rm.2 (hO rc.1 f1 rc.2.1) f2) := lwD hD0
  clear hQ hz hkp
  generalize H1 = H at hP hS ⊢
  refine lv_istore (lv' := [(7, .int rm.1), (6, .int (hk_seatsAgain rc.1)), (5, .int (nI i)), (4, .ref o2), (3, .ref o1), (2, .ref (a 0)), (1, .ref (B 9 0)), (0, .ref b)]) hx hb dL_law_1500 hl (by decide) rfl (fun ls hl => ?_)
  refine lv_aload_n hx hb dL_law_1502 rfl (lv_at hl 5 rfl) ?_
  refine jVpI C dL_law_1503 (k_X9_thrown l D G a N2 rm.2 (rm.2 0 0) rfl) jy_X9_thrown jq_15_8 jq_15_9 jq_15_10 ⟨rfl, rfl, Nat.le_of_ble_eq_true rfl, Nat.le_of_ble_eq_true rfl⟩ ⟨by show cells + 3 ≤ 603072; omega, by show slots + 18 ≤ 7174250; omega⟩ (jMidP (pre := []) (mid := wM a G rm.2) (post := wTS B G rc.2.2 ++ ([((o1, .inl (G 3, 1, .inr (.inl (hO rc.1 f1 rc.2.1)))) : Nat × va_E)] ++ [((o2, .inl (G 4, 1, .inr (.inr (.inr (.inl f2))))) : Nat × va_E)])) hP) (ci := 11) (iw := 0) rfl rfl rfl hl (As := []) (rest := []) rfl (Nat.le_of_ble_eq_true rfl) ?_
  refine lv_iload hx hb dL_law_1506 (lv_at hl 1 rfl) ?_
  refine lv_icmp_eq (tgt := 1513) hx hb dL_law_1508 (by decide) (fun _ => ?_) (fun h => absurd ht h)
  refine lv_iload hx hb dL_law_1513 (lv_at hl 1 rfl) ?_
  refine lv_if_ne (tgt := 1530) hx hb dL_law_1515 (by decide) (fun _ => ?_) (fun hz0 => ?_)
  · refine lv_goto (tgt := 2403) hx hb dL_law_1530 (by decide) ?_
    exact kk rc.2.2 rm.2 (hO rc.1 f1 rc.2.1) f2 ls H locs hR2 hP hD hS (lv_sub hl [2, 3, 4, 5, 6, 7] rfl)
  · have hk0 : rc.1 = 0 := by
      rcases hk with hk | hk
      · exact hk
      · rw [hk] at hz0; exact absurd hz0 (by decide)
    refine lv_aload_n hx hb dL_law_1518 rfl (lv_at hl 4 rfl) ?_
    refine lv_iconst (v := 0) hx hb dL_law_1519 (by decide) ?_
    rw [lwW_1] at hP
    refine va_lald (n := 1) hx hb hK hP ((wM a G rm.2).length + (wTS B G rc.2.2).length) 3 (jAt1 _ _ _ _) rfl (inb_of (by decide)) dL_law_1520 ?_
    rw [← lwW_1] at hP
    refine lv_iload hx hb dL_law_1521 (lv_at hl 0 rfl) ?_
    refine lv_i2l hx hb dL_law_1523 rfl ?_
    refine W.lcmp hx hb dL_law_1524 ?_
    have hzz : lg_cmp ((hO rc.1 f1 rc.2.1) (0 : Int32).toNatClampNeg) rm.1.toInt64 = 0 := lgc (by unfold hO; rw [if_pos hk0, hv hk0]; rfl)
    refine lv_if_eq (tgt := 1530) hx hb dL_law_1525 (by decide) (fun _ => ?_) (fun h => absurd hzz h)
    refine lv_goto (tgt := 2403) hx hb dL_law_1530 (by decide) ?_
    exact kk rc.2.2 rm.2 (hO rc.1 f1 rc.2.1) f2 ls H locs hR2 hP hD hS (lv_sub hl [2, 3, 4, 5, 6, 7] rfl)
def jE_subscribe (Rl : (Nat → Nat → Nat → Int32) → (Nat → Nat → Int32) → Prop) : Prop := ∀ (S : Nat → Nat → Nat → Int32) (M : Nat → Nat → Int32) (v1 : Int32), Rl S M → ∃ (N1 : Nat) (rc : _) (N2 : Nat) (rm : _), F_X8_subscribe N1 S v1 = some rc ∧ F_X9_subscribe N2 M v1 = some rm ∧ (rc.1 = 0 ∨ rc.1 = 2 ∨ rc.1 = 3) ∧ rm.2 0 0 = hk_subscribe rc.1 ∧ (rc.1 = 0 → rc.2.1 = rm.1) ∧ Rl rc.2.2 rm.2
theorem hy_subscribe : hY yL_subscribe cL_subscribe 4 [(0, 9, 12, 15), (0, 9, 15, 30)] 3 := ⟨by decide +kernel, jq_36_10, jq_6_7⟩
set_option maxHeartbeats 4000000 in
set_option maxRecDepth 100000 in
theorem lc_subscribe {p : Program} {l : Launch} {e : Env} {s : State} {m : MethodId} {args : Array Value} {below : List Frame} {meth : Method} {c : Code} {Q : State → Prop} {D : va_G} {G : Nat → ClassId} {A : Nat → Prop} {ks va : Nat → Nat} {b L i : Nat} {xs : Nat → Int32} {a : Nat → Nat} {B : Nat → Nat → Nat} {o1 o2 : Nat} {Rl : (Nat → Nat → Nat → Int32) → (Nat → Nat → Int32) → Prop} {ret : Option FieldType}
    (C : Cx p s m args meth c cL_law 9 RL ret D G) (hl0 : l.stackTraces = false) (hZ : jZ ks va A s s.heap) (hC : jC s) (hA : ∀ q : Nat, s.heap.size ≤ q → A q) (hX : va_X b L xs s s.heap) (hbl : b < s.heap.size) (hbA : ¬ A b) (h0 : vp_in (nI i) L) (h1 : vp_in (nI i + 1) L) (h2 : vp_in (nI i + 2) L) (h3 : vp_in (nI i + 3) L) (h4 : vp_in (nI i + 4) L) (hE : jE_subscribe Rl) : ∀ (S : Nat → Nat → Nat → Int32) (M : Nat → Nat → Int32) (f1 : Nat → Int64) (f2 : Nat → UInt64) (ls : Array Slot) (H : Heap) (locs : List Loc) (cells slots : Nat), cells + 3 ≤ 603072 → slots + 18 ≤ 7174250 → Rl S M → va_P D vwCl (lwW a B G o1 o2 S M f1 f2) H → va_D A (lwW a B G o1 o2 S M f1 f2) → va_S A s.heap H locs → lv_has ls 9 [(5, .int (nI i)), (4, .ref o2), (3, .ref o1), (2, .ref (a 0)), (1, .ref (B 9 0)), (0, .ref b)] → (∀ (S : Nat → Nat → Nat → Int32) (M : Nat → Nat → Int32) (f1 : Nat → Int64) (f2 : Nat → UInt64) (ls : Array Slot) (H : Heap) (locs : List Loc), Rl S M → va_P D vwCl (lwW a B G o1 o2 S M f1 f2) H → va_D A (lwW a B G o1 o2 S M f1 f2) → va_S A s.heap H locs → lv_has ls 9 [(5, .int (nI i)), (4, .ref o2), (3, .ref o1), (2, .ref (a 0)), (1, .ref (B 9 0)), (0, .ref b)] → W p l e room_1 s m args below meth c H locs (cells + 3) (slots + 18) Q (F0 m 2403 ls [])) → W p l e room_1 s m args below meth c H locs cells slots Q (F0 m 1533 ls []) := by
  intro S M f1 f2 ls H locs cells slots hcc hcs hR hP hD hS hl kk
  have hD0 := hD
  obtain ⟨hx, hb, hr, hml, hts, hown, hlocks, hK0⟩ := id C
  have hK := hK0.1
  refine lv_aload_n hx hb dL_law_1533 rfl (lv_at hl 4 rfl) ?_
  refine lv_aload_n hx hb dL_law_1534 rfl (lv_at hl 5 rfl) ?_
  refine lv_iload hx hb dL_law_1535 (lv_at hl 0 rfl) ?_
  refine lv_iconst (v := 1) hx hb dL_law_1537 (by decide) ?_
  refine lv_iadd hx hb dL_law_1538 ?_
  refine va_sld hx hb hX hbl hbA hS h1 dL_law_1539 ?_
  refine lv_aload_n hx hb dL_law_1540 rfl (lv_at hl 2 rfl) ?_
  obtain ⟨N1, rc, N2, rm, e1, e2, hk, ht, hv, hR2⟩ := hE S M (xs (nI i + 1).toNatClampNeg) hR
  rw [lwW_1] at hP hD
  refine jSh C dL_law_1541 (kh_subscribe l hl0 D G B ks va o1 f1 N1 S (xs (nI i + 1).toNatClampNeg) rc e1 hk) hy_subscribe jq_36_8 jq_36_9 ⟨Nat.le_of_ble_eq_true rfl, Nat.le_of_ble_eq_true rfl⟩ ⟨by show cells + 3 ≤ 603072; omega, by show slots + 18 ≤ 7174250; omega⟩ hZ hC (jMidP (pre := wM a G M) (mid := wTS B G S ++ [((o1, .inl (G 3, 1, .inr (.inl f1))) : Nat × va_E)]) (post := [((o2, .inl (G 4, 1, .inr (.inr (.inr (.inl f2))))) : Nat × va_E)]) hP) (jMidD (pre := wM a G M) (mid := wTS B G S ++ [((o1, .inl (G 3, 1, .inr (.inl f1))) : Nat × va_E)]) (post := [((o2, .inl (G 4, 1, .inr (.inr (.inr (.inl f2))))) : Nat × va_E)]) hD) hA hS hl (As := [.ref (B 9 0), .int (xs (nI i + 1).toNatClampNeg), .ref o1]) (rest := []) rfl (Nat.le_of_ble_eq_true rfl) (fun H1 locs hQ hz hkp hS => ?_)
  have hP := jMidJoin (pre := wM a G M) (mid := wTS B G S ++ [((o1, .inl (G 3, 1, .inr (.inl f1))) : Nat × va_E)]) (mid' := wTS B G rc.2.2 ++ [((o1, .inl (G 3, 1, .inr (.inl (hO rc.1 f1 rc.2.1)))) : Nat × va_E)]) (post := [((o2, .inl (G 4, 1, .inr (.inr (.inr (.inl f2))))) : Nat × va_E)]) hP hD hkp hQ
  have hP : va_P D vwCl (lwW a B G o1 o2 rc.2.2 M (hO rc.1 f1 rc.2.1) f2) H1 := by rw [lwW_1]; exact hP
  have hD : va_D A (lwW a B G o1 o2 rc.2.2 M (hO rc.1 f1 rc.2.1) f2) := lwD hD0
  clear hQ hz hkp
  generalize H1 = H at hP hS ⊢
  refine W.widen (k := cells + 3) (n := slots + 18) (show cells + 3 ≤ cells + 3 by omega) (show slots + 18 ≤ slots + 18 by omega) ?_
  refine lv_istore (lv' := [(6, .int (hk_subscribe rc.1)), (5, .int (nI i)), (4, .ref o2), (3, .ref o1), (2, .ref (a 0)), (1, .ref (B 9 0)), (0, .ref b)]) hx hb dL_law_1544 hl (by decide) rfl (fun ls hl => ?_)
  refine lv_aload_n hx hb dL_law_1546 rfl (lv_at hl 4 rfl) ?_
  refine lv_aload_n hx hb dL_law_1547 rfl (lv_at hl 6 rfl) ?_
  refine lv_iload hx hb dL_law_1548 (lv_at hl 1 rfl) ?_
  refine lv_iconst (v := 1) hx hb dL_law_1550 (by decide) ?_
  refine lv_iadd hx hb dL_law_1551 ?_
  refine va_sld hx hb hX hbl hbA hS h1 dL_law_1552 ?_
  refine jVmI C dL_law_1553 (k_X9_subscribe l D G a N2 M (xs (nI i + 1).toNatClampNeg) rm e2) jy_X9_subscribe jq_37_0 jq_37_1 jq_37_2 ⟨rfl, rfl, Nat.le_of_ble_eq_true rfl, Nat.le_of_ble_eq_true rfl⟩ ⟨by show cells + 3 ≤ 603072; omega, by show slots + 18 ≤ 7174250; omega⟩ (jMidP (pre := []) (mid := wM a G M) (post := wTS B G rc.2.2 ++ ([((o1, .inl (G 3, 1, .inr (.inl (hO rc.1 f1 rc.2.1)))) : Nat × va_E)] ++ [((o2, .inl (G 4, 1, .inr (.inr (.inr (.inl f2))))) : Nat × va_E)])) hP) (jMidD (pre := []) (mid := wM a G M) (post := wTS B G rc.2.2 ++ ([((o1, .inl (G 3, 1, .inr (.inl (hO rc.1 f1 rc.2.1)))) : Nat × va_E)] ++ [((o2, .inl (G 4, 1, .inr (.inr (.inr (.inl f2))))) : Nat × va_E)])) hD) hA hS (ci := 11) (iw := 0) rfl rfl rfl hl (As := [.int (xs (nI i + 1).toNatClampNeg)]) (rest := []) rfl (Nat.le_of_ble_eq_true rfl) (fun H1 locs hQ hz hkp hS => ?_)
  have hP : va_P D vwCl (lwW a B G o1 o2 rc.2.2 rm.2 (hO rc.1 f1 rc.2.1) f2) H1 := jMidJoin (pre := []) (mid := wM a G M) (mid' := wM a G rm.2) (post := wTS B G rc.2.2 ++ ([((o1, .inl (G 3, 1, .inr (.inl (hO rc.1 f1 rc.2.1)))) : Nat × va_E)] ++ [((o2, .inl (G 4, 1, .inr (.inr (.inr (.inl f2))))) : Nat × va_E)])) hP hD hkp hQ
  have hD : va_D A (lwW a B G o1 o2 rc.2.2 rm.2 (hO rc.1 f1 rc.2.1) f2) := lwD hD0
  clear hQ hz hkp
  generalize H1 = H at hP hS ⊢
  refine lv_istore (lv' := [(7, .int rm.1), (6, .int (hk_subscribe rc.1)), (5, .int (nI i)), (4, .ref o2), (3, .ref o1), (2, .ref (a 0)), (1, .ref (B 9 0)), (0, .ref b)]) hx hb dL_law_1556 hl (by decide) rfl (fun ls hl => ?_)
  refine lv_aload_n hx hb dL_law_1558 rfl (lv_at hl 5 rfl) ?_
  refine jVpI C dL_law_1559 (k_X9_thrown l D G a N2 rm.2 (rm.2 0 0) rfl) jy_X9_thrown jq_15_8 jq_15_9 jq_15_10 ⟨rfl, rfl, Nat.le_of_ble_eq_true rfl, Nat.le_of_ble_eq_true rfl⟩ ⟨by show cells + 3 ≤ 603072; omega, by show slots + 18 ≤ 7174250; omega⟩ (jMidP (pre := []) (mid := wM a G rm.2) (post := wTS B G rc.2.2 ++ ([((o1, .inl (G 3, 1, .inr (.inl (hO rc.1 f1 rc.2.1)))) : Nat × va_E)] ++ [((o2, .inl (G 4, 1, .inr (.inr (.inr (.inl f2))))) : Nat × va_E)])) hP) (ci := 11) (iw := 0) rfl rfl rfl hl (As := []) (rest := []) rfl (Nat.le_of_ble_eq_true rfl) ?_
  refine lv_iload hx hb dL_law_1562 (lv_at hl 1 rfl) ?_
  refine lv_icmp_eq (tgt := 1569) hx hb dL_law_1564 (by decide) (fun _ => ?_) (fun h => absurd ht h)
  refine lv_iload hx hb dL_law_1569 (lv_at hl 1 rfl) ?_
  refine lv_if_ne (tgt := 1586) hx hb dL_law_1571 (by decide) (fun _ => ?_) (fun hz0 => ?_)
  · refine lv_goto (tgt := 2403) hx hb dL_law_1586 (by decide) ?_
    exact kk rc.2.2 rm.2 (hO rc.1 f1 rc.2.1) f2 ls H locs hR2 hP hD hS (lv_sub hl [2, 3, 4, 5, 6, 7] rfl)
  · have hk0 : rc.1 = 0 := by
      rcases hk with hk | hk | hk
      · exact hk
      · rw [hk] at hz0; exact absurd hz0 (by decide)
      · rw [hk] at hz0; exact absurd hz0 (by decide)
    refine lv_aload_n hx hb dL_law_1574 rfl (lv_at hl 4 rfl) ?_
    refine lv_iconst (v := 0) hx hb dL_law_1575 (by decide) ?_
    rw [lwW_1] at hP
    refine va_lald (n := 1) hx hb hK hP ((wM a G rm.2).length + (wTS B G rc.2.2).length) 3 (jAt1 _ _ _ _) rfl (inb_of (by decide)) dL_law_1576 ?_
    rw [← lwW_1] at hP
    refine lv_iload hx hb dL_law_1577 (lv_at hl 0 rfl) ?_
    refine lv_i2l hx hb dL_law_1579 rfl ?_
    refine W.lcmp hx hb dL_law_1580 ?_
    have hzz : lg_cmp ((hO rc.1 f1 rc.2.1) (0 : Int32).toNatClampNeg) rm.1.toInt64 = 0 := lgc (by unfold hO; rw [if_pos hk0, hv hk0]; rfl)
    refine lv_if_eq (tgt := 1586) hx hb dL_law_1581 (by decide) (fun _ => ?_) (fun h => absurd hzz h)
    refine lv_goto (tgt := 2403) hx hb dL_law_1586 (by decide) ?_
    exact kk rc.2.2 rm.2 (hO rc.1 f1 rc.2.1) f2 ls H locs hR2 hP hD hS (lv_sub hl [2, 3, 4, 5, 6, 7] rfl)
def jE_hold (Rl : (Nat → Nat → Nat → Int32) → (Nat → Nat → Int32) → Prop) : Prop := ∀ (S : Nat → Nat → Nat → Int32) (M : Nat → Nat → Int32) (v1 v2 : Int32), Rl S M → ∃ (N1 : Nat) (rc : _) (N2 : Nat) (rm : _), F_X8_hold N1 S v1 v2 = some rc ∧ F_X9_hold N2 M v1 v2 = some rm ∧ (rc.1 = 0 ∨ rc.1 = 1 ∨ rc.1 = 4) ∧ rm.2 0 0 = hk_hold rc.1 ∧ (rc.1 = 0 → rc.2.1 = rm.1) ∧ Rl rc.2.2 rm.2
theorem hy_hold : hY yL_hold cL_hold 5 [(0, 10, 13, 13), (0, 10, 17, 17)] 4 := ⟨by decide +kernel, jq_37_10, jq_6_7⟩
set_option maxHeartbeats 4000000 in
set_option maxRecDepth 100000 in
theorem lc_hold {p : Program} {l : Launch} {e : Env} {s : State} {m : MethodId} {args : Array Value} {below : List Frame} {meth : Method} {c : Code} {Q : State → Prop} {D : va_G} {G : Nat → ClassId} {A : Nat → Prop} {ks va : Nat → Nat} {b L i : Nat} {xs : Nat → Int32} {a : Nat → Nat} {B : Nat → Nat → Nat} {o1 o2 : Nat} {Rl : (Nat → Nat → Nat → Int32) → (Nat → Nat → Int32) → Prop} {ret : Option FieldType}
    (C : Cx p s m args meth c cL_law 9 RL ret D G) (hl0 : l.stackTraces = false) (hZ : jZ ks va A s s.heap) (hC : jC s) (hA : ∀ q : Nat, s.heap.size ≤ q → A q) (hX : va_X b L xs s s.heap) (hbl : b < s.heap.size) (hbA : ¬ A b) (h0 : vp_in (nI i) L) (h1 : vp_in (nI i + 1) L) (h2 : vp_in (nI i + 2) L) (h3 : vp_in (nI i + 3) L) (h4 : vp_in (nI i + 4) L) (hE : jE_hold Rl) : ∀ (S : Nat → Nat → Nat → Int32) (M : Nat → Nat → Int32) (f1 : Nat → Int64) (f2 : Nat → UInt64) (ls : Array Slot) (H : Heap) (locs : List Loc) (cells slots : Nat), cells + 3 ≤ 603072 → slots + 18 ≤ 7174250 → Rl S M → va_P D vwCl (lwW a B G o1 o2 S M f1 f2) H → va_D A (lwW a B G o1 o2 S M f1 f2) → va_S A s.heap H locs → lv_has ls 9 [(5, .int (nI i)), (4, .ref o2), (3, .ref o1), (2, .ref (a 0)), (1, .ref (B 9 0)), (0, .ref b)] → (∀ (S : Nat → Nat → Nat → Int32) (M : Nat → Nat → Int32) (f1 : Nat → Int64) (f2 : Nat → UInt64) (ls : Array Slot) (H : Heap) (locs : List Loc), Rl S M → va_P D vwCl (lwW a B G o1 o2 S M f1 f2) H → va_D A (lwW a B G o1 o2 S M f1 f2) → va_S A s.heap H locs → lv_has ls 9 [(5, .int (nI i)), (4, .ref o2), (3, .ref o1), (2, .ref (a 0)), (1, .ref (B 9 0)), (0, .ref b)] → W p l e room_1 s m args below meth c H locs (cells + 3) (slots + 18) Q (F0 m 2403 ls [])) → W p l e room_1 s m args below meth c H locs cells slots Q (F0 m 1589 ls []) := by
  intro S M f1 f2 ls H locs cells slots hcc hcs hR hP hD hS hl kk
  have hD0 := hD
  obtain ⟨hx, hb, hr, hml, hts, hown, hlocks, hK0⟩ := id C
  have hK := hK0.1
  refine lv_aload_n hx hb dL_law_1589 rfl (lv_at hl 4 rfl) ?_
  refine lv_aload_n hx hb dL_law_1590 rfl (lv_at hl 5 rfl) ?_
  refine lv_iload hx hb dL_law_1591 (lv_at hl 0 rfl) ?_
  refine lv_iconst (v := 1) hx hb dL_law_1593 (by decide) ?_
  refine lv_iadd hx hb dL_law_1594 ?_
  refine va_sld hx hb hX hbl hbA hS h1 dL_law_1595 ?_
  refine lv_aload_n hx hb dL_law_1596 rfl (lv_at hl 5 rfl) ?_
  refine lv_iload hx hb dL_law_1597 (lv_at hl 0 rfl) ?_
  refine lv_iconst (v := 2) hx hb dL_law_1599 (by decide) ?_
  refine lv_iadd hx hb dL_law_1600 ?_
  refine va_sld hx hb hX hbl hbA hS h2 dL_law_1601 ?_
  refine lv_aload_n hx hb dL_law_1602 rfl (lv_at hl 2 rfl) ?_
  obtain ⟨N1, rc, N2, rm, e1, e2, hk, ht, hv, hR2⟩ := hE S M (xs (nI i + 1).toNatClampNeg) (xs (nI i + 2).toNatClampNeg) hR
  rw [lwW_1] at hP hD
  refine jSh C dL_law_1603 (kh_hold l hl0 D G B ks va o1 f1 N1 S (xs (nI i + 1).toNatClampNeg) (xs (nI i + 2).toNatClampNeg) rc e1 hk) hy_hold jq_37_8 jq_37_9 ⟨Nat.le_of_ble_eq_true rfl, Nat.le_of_ble_eq_true rfl⟩ ⟨by show cells + 3 ≤ 603072; omega, by show slots + 18 ≤ 7174250; omega⟩ hZ hC (jMidP (pre := wM a G M) (mid := wTS B G S ++ [((o1, .inl (G 3, 1, .inr (.inl f1))) : Nat × va_E)]) (post := [((o2, .inl (G 4, 1, .inr (.inr (.inr (.inl f2))))) : Nat × va_E)]) hP) (jMidD (pre := wM a G M) (mid := wTS B G S ++ [((o1, .inl (G 3, 1, .inr (.inl f1))) : Nat × va_E)]) (post := [((o2, .inl (G 4, 1, .inr (.inr (.inr (.inl f2))))) : Nat × va_E)]) hD) hA hS hl (As := [.ref (B 9 0), .int (xs (nI i + 1).toNatClampNeg), .int (xs (nI i + 2).toNatClampNeg), .ref o1]) (rest := []) rfl (Nat.le_of_ble_eq_true rfl) (fun H1 locs hQ hz hkp hS => ?_)
  have hP := jMidJoin (pre := wM a G M) (mid := wTS B G S ++ [((o1, .inl (G 3, 1, .inr (.inl f1))) : Nat × va_E)]) (mid' := wTS B G rc.2.2 ++ [((o1, .inl (G 3, 1, .inr (.inl (hO rc.1 f1 rc.2.1)))) : Nat × va_E)]) (post := [((o2, .inl (G 4, 1, .inr (.inr (.inr (.inl f2))))) : Nat × va_E)]) hP hD hkp hQ
  have hP : va_P D vwCl (lwW a B G o1 o2 rc.2.2 M (hO rc.1 f1 rc.2.1) f2) H1 := by rw [lwW_1]; exact hP
  have hD : va_D A (lwW a B G o1 o2 rc.2.2 M (hO rc.1 f1 rc.2.1) f2) := lwD hD0
  clear hQ hz hkp
  generalize H1 = H at hP hS ⊢
  refine W.widen (k := cells + 3) (n := slots + 18) (show cells + 3 ≤ cells + 3 by omega) (show slots + 18 ≤ slots + 18 by omega) ?_
  refine lv_istore (lv' := [(6, .int (hk_hold rc.1)), (5, .int (nI i)), (4, .ref o2), (3, .ref o1), (2, .ref (a 0)), (1, .ref (B 9 0)), (0, .ref b)]) hx hb dL_law_1606 hl (by decide) rfl (fun ls hl => ?_)
  refine lv_aload_n hx hb dL_law_1608 rfl (lv_at hl 4 rfl) ?_
  refine lv_aload_n hx hb dL_law_1609 rfl (lv_at hl 6 rfl) ?_
  refine lv_iload hx hb dL_law_1610 (lv_at hl 1 rfl) ?_
  refine lv_iconst (v := 1) hx hb dL_law_1612 (by decide) ?_
  refine lv_iadd hx hb dL_law_1613 ?_
  refine va_sld hx hb hX hbl hbA hS h1 dL_law_1614 ?_
  refine lv_aload_n hx hb dL_law_1615 rfl (lv_at hl 6 rfl) ?_
  refine lv_iload hx hb dL_law_1616 (lv_at hl 1 rfl) ?_
  refine lv_iconst (v := 2) hx hb dL_law_1618 (by decide) ?_
  refine lv_iadd hx hb dL_law_1619 ?_
  refine va_sld hx hb hX hbl hbA hS h2 dL_law_1620 ?_
  refine jVmI C dL_law_1621 (k_X9_hold l D G a N2 M (xs (nI i + 1).toNatClampNeg) (xs (nI i + 2).toNatClampNeg) rm e2) jy_X9_hold jq_38_10 jq_38_11 jq_38_12 ⟨rfl, rfl, Nat.le_of_ble_eq_true rfl, Nat.le_of_ble_eq_true rfl⟩ ⟨by show cells + 3 ≤ 603072; omega, by show slots + 18 ≤ 7174250; omega⟩ (jMidP (pre := []) (mid := wM a G M) (post := wTS B G rc.2.2 ++ ([((o1, .inl (G 3, 1, .inr (.inl (hO rc.1 f1 rc.2.1)))) : Nat × va_E)] ++ [((o2, .inl (G 4, 1, .inr (.inr (.inr (.inl f2))))) : Nat × va_E)])) hP) (jMidD (pre := []) (mid := wM a G M) (post := wTS B G rc.2.2 ++ ([((o1, .inl (G 3, 1, .inr (.inl (hO rc.1 f1 rc.2.1)))) : Nat × va_E)] ++ [((o2, .inl (G 4, 1, .inr (.inr (.inr (.inl f2))))) : Nat × va_E)])) hD) hA hS (ci := 11) (iw := 0) rfl rfl rfl hl (As := [.int (xs (nI i + 1).toNatClampNeg), .int (xs (nI i + 2).toNatClampNeg)]) (rest := []) rfl (Nat.le_of_ble_eq_true rfl) (fun H1 locs hQ hz hkp hS => ?_)
  have hP : va_P D vwCl (lwW a B G o1 o2 rc.2.2 rm.2 (hO rc.1 f1 rc.2.1) f2) H1 := jMidJoin (pre := []) (mid := wM a G M) (mid' := wM a G rm.2) (post := wTS B G rc.2.2 ++ ([((o1, .inl (G 3, 1, .inr (.inl (hO rc.1 f1 rc.2.1)))) : Nat × va_E)] ++ [((o2, .inl (G 4, 1, .inr (.inr (.inr (.inl f2))))) : Nat × va_E)])) hP hD hkp hQ
  have hD : va_D A (lwW a B G o1 o2 rc.2.2 rm.2 (hO rc.1 f1 rc.2.1) f2) := lwD hD0
  clear hQ hz hkp
  generalize H1 = H at hP hS ⊢
  refine lv_istore (lv' := [(7, .int rm.1), (6, .int (hk_hold rc.1)), (5, .int (nI i)), (4, .ref o2), (3, .ref o1), (2, .ref (a 0)), (1, .ref (B 9 0)), (0, .ref b)]) hx hb dL_law_1624 hl (by decide) rfl (fun ls hl => ?_)
  refine lv_aload_n hx hb dL_law_1626 rfl (lv_at hl 5 rfl) ?_
  refine jVpI C dL_law_1627 (k_X9_thrown l D G a N2 rm.2 (rm.2 0 0) rfl) jy_X9_thrown jq_15_8 jq_15_9 jq_15_10 ⟨rfl, rfl, Nat.le_of_ble_eq_true rfl, Nat.le_of_ble_eq_true rfl⟩ ⟨by show cells + 3 ≤ 603072; omega, by show slots + 18 ≤ 7174250; omega⟩ (jMidP (pre := []) (mid := wM a G rm.2) (post := wTS B G rc.2.2 ++ ([((o1, .inl (G 3, 1, .inr (.inl (hO rc.1 f1 rc.2.1)))) : Nat × va_E)] ++ [((o2, .inl (G 4, 1, .inr (.inr (.inr (.inl f2))))) : Nat × va_E)])) hP) (ci := 11) (iw := 0) rfl rfl rfl hl (As := []) (rest := []) rfl (Nat.le_of_ble_eq_true rfl) ?_
  refine lv_iload hx hb dL_law_1630 (lv_at hl 1 rfl) ?_
  refine lv_icmp_eq (tgt := 1637) hx hb dL_law_1632 (by decide) (fun _ => ?_) (fun h => absurd ht h)
  refine lv_iload hx hb dL_law_1637 (lv_at hl 1 rfl) ?_
  refine lv_if_ne (tgt := 1654) hx hb dL_law_1639 (by decide) (fun _ => ?_) (fun hz0 => ?_)
  · refine lv_goto (tgt := 2403) hx hb dL_law_1654 (by decide) ?_
    exact kk rc.2.2 rm.2 (hO rc.1 f1 rc.2.1) f2 ls H locs hR2 hP hD hS (lv_sub hl [2, 3, 4, 5, 6, 7] rfl)
  · have hk0 : rc.1 = 0 := by
      rcases hk with hk | hk | hk
      · exact hk
      · rw [hk] at hz0; exact absurd hz0 (by decide)
      · rw [hk] at hz0; exact absurd hz0 (by decide)
    refine lv_aload_n hx hb dL_law_1642 rfl (lv_at hl 4 rfl) ?_
    refine lv_iconst (v := 0) hx hb dL_law_1643 (by decide) ?_
    rw [lwW_1] at hP
    refine va_lald (n := 1) hx hb hK hP ((wM a G rm.2).length + (wTS B G rc.2.2).length) 3 (jAt1 _ _ _ _) rfl (inb_of (by decide)) dL_law_1644 ?_
    rw [← lwW_1] at hP
    refine lv_iload hx hb dL_law_1645 (lv_at hl 0 rfl) ?_
    refine lv_i2l hx hb dL_law_1647 rfl ?_
    refine W.lcmp hx hb dL_law_1648 ?_
    have hzz : lg_cmp ((hO rc.1 f1 rc.2.1) (0 : Int32).toNatClampNeg) rm.1.toInt64 = 0 := lgc (by unfold hO; rw [if_pos hk0, hv hk0]; rfl)
    refine lv_if_eq (tgt := 1654) hx hb dL_law_1649 (by decide) (fun _ => ?_) (fun h => absurd hzz h)
    refine lv_goto (tgt := 2403) hx hb dL_law_1654 (by decide) ?_
    exact kk rc.2.2 rm.2 (hO rc.1 f1 rc.2.1) f2 ls H locs hR2 hP hD hS (lv_sub hl [2, 3, 4, 5, 6, 7] rfl)
def jE_release (Rl : (Nat → Nat → Nat → Int32) → (Nat → Nat → Int32) → Prop) : Prop := ∀ (S : Nat → Nat → Nat → Int32) (M : Nat → Nat → Int32) (v1 v2 : Int32), Rl S M → ∃ (N1 : Nat) (rc : _) (N2 : Nat) (rm : _), F_X8_release N1 S v1 v2 = some rc ∧ F_X9_release N2 M v1 v2 = some rm ∧ (rc.1 = 0 ∨ rc.1 = 1 ∨ rc.1 = 4) ∧ rm.2 0 0 = hk_release rc.1 ∧ (rc.1 = 0 → rc.2.1 = rm.1) ∧ Rl rc.2.2 rm.2
theorem hy_release : hY yL_release cL_release 5 [(0, 10, 13, 13), (0, 10, 17, 17)] 4 := ⟨by decide +kernel, jq_39_4, jq_6_7⟩
set_option maxHeartbeats 4000000 in
set_option maxRecDepth 100000 in
theorem lc_release {p : Program} {l : Launch} {e : Env} {s : State} {m : MethodId} {args : Array Value} {below : List Frame} {meth : Method} {c : Code} {Q : State → Prop} {D : va_G} {G : Nat → ClassId} {A : Nat → Prop} {ks va : Nat → Nat} {b L i : Nat} {xs : Nat → Int32} {a : Nat → Nat} {B : Nat → Nat → Nat} {o1 o2 : Nat} {Rl : (Nat → Nat → Nat → Int32) → (Nat → Nat → Int32) → Prop} {ret : Option FieldType}
    (C : Cx p s m args meth c cL_law 9 RL ret D G) (hl0 : l.stackTraces = false) (hZ : jZ ks va A s s.heap) (hC : jC s) (hA : ∀ q : Nat, s.heap.size ≤ q → A q) (hX : va_X b L xs s s.heap) (hbl : b < s.heap.size) (hbA : ¬ A b) (h0 : vp_in (nI i) L) (h1 : vp_in (nI i + 1) L) (h2 : vp_in (nI i + 2) L) (h3 : vp_in (nI i + 3) L) (h4 : vp_in (nI i + 4) L) (hE : jE_release Rl) : ∀ (S : Nat → Nat → Nat → Int32) (M : Nat → Nat → Int32) (f1 : Nat → Int64) (f2 : Nat → UInt64) (ls : Array Slot) (H : Heap) (locs : List Loc) (cells slots : Nat), cells + 3 ≤ 603072 → slots + 18 ≤ 7174250 → Rl S M → va_P D vwCl (lwW a B G o1 o2 S M f1 f2) H → va_D A (lwW a B G o1 o2 S M f1 f2) → va_S A s.heap H locs → lv_has ls 9 [(5, .int (nI i)), (4, .ref o2), (3, .ref o1), (2, .ref (a 0)), (1, .ref (B 9 0)), (0, .ref b)] → (∀ (S : Nat → Nat → Nat → Int32) (M : Nat → Nat → Int32) (f1 : Nat → Int64) (f2 : Nat → UInt64) (ls : Array Slot) (H : Heap) (locs : List Loc), Rl S M → va_P D vwCl (lwW a B G o1 o2 S M f1 f2) H → va_D A (lwW a B G o1 o2 S M f1 f2) → va_S A s.heap H locs → lv_has ls 9 [(5, .int (nI i)), (4, .ref o2), (3, .ref o1), (2, .ref (a 0)), (1, .ref (B 9 0)), (0, .ref b)] → W p l e room_1 s m args below meth c H locs (cells + 3) (slots + 18) Q (F0 m 2403 ls [])) → W p l e room_1 s m args below meth c H locs cells slots Q (F0 m 1657 ls []) := by
  intro S M f1 f2 ls H locs cells slots hcc hcs hR hP hD hS hl kk
  have hD0 := hD
  obtain ⟨hx, hb, hr, hml, hts, hown, hlocks, hK0⟩ := id C
  have hK := hK0.1
  refine lv_aload_n hx hb dL_law_1657 rfl (lv_at hl 4 rfl) ?_
  refine lv_aload_n hx hb dL_law_1658 rfl (lv_at hl 5 rfl) ?_
  refine lv_iload hx hb dL_law_1659 (lv_at hl 0 rfl) ?_
  refine lv_iconst (v := 1) hx hb dL_law_1661 (by decide) ?_
  refine lv_iadd hx hb dL_law_1662 ?_
  refine va_sld hx hb hX hbl hbA hS h1 dL_law_1663 ?_
  refine lv_aload_n hx hb dL_law_1664 rfl (lv_at hl 5 rfl) ?_
  refine lv_iload hx hb dL_law_1665 (lv_at hl 0 rfl) ?_
  refine lv_iconst (v := 2) hx hb dL_law_1667 (by decide) ?_
  refine lv_iadd hx hb dL_law_1668 ?_
  refine va_sld hx hb hX hbl hbA hS h2 dL_law_1669 ?_
  refine lv_aload_n hx hb dL_law_1670 rfl (lv_at hl 2 rfl) ?_
  obtain ⟨N1, rc, N2, rm, e1, e2, hk, ht, hv, hR2⟩ := hE S M (xs (nI i + 1).toNatClampNeg) (xs (nI i + 2).toNatClampNeg) hR
  rw [lwW_1] at hP hD
  refine jSh C dL_law_1671 (kh_release l hl0 D G B ks va o1 f1 N1 S (xs (nI i + 1).toNatClampNeg) (xs (nI i + 2).toNatClampNeg) rc e1 hk) hy_release jq_39_2 jq_39_3 ⟨Nat.le_of_ble_eq_true rfl, Nat.le_of_ble_eq_true rfl⟩ ⟨by show cells + 3 ≤ 603072; omega, by show slots + 18 ≤ 7174250; omega⟩ hZ hC (jMidP (pre := wM a G M) (mid := wTS B G S ++ [((o1, .inl (G 3, 1, .inr (.inl f1))) : Nat × va_E)]) (post := [((o2, .inl (G 4, 1, .inr (.inr (.inr (.inl f2))))) : Nat × va_E)]) hP) (jMidD (pre := wM a G M) (mid := wTS B G S ++ [((o1, .inl (G 3, 1, .inr (.inl f1))) : Nat × va_E)]) (post := [((o2, .inl (G 4, 1, .inr (.inr (.inr (.inl f2))))) : Nat × va_E)]) hD) hA hS hl (As := [.ref (B 9 0), .int (xs (nI i + 1).toNatClampNeg), .int (xs (nI i + 2).toNatClampNeg), .ref o1]) (rest := []) rfl (Nat.le_of_ble_eq_true rfl) (fun H1 locs hQ hz hkp hS => ?_)
  have hP := jMidJoin (pre := wM a G M) (mid := wTS B G S ++ [((o1, .inl (G 3, 1, .inr (.inl f1))) : Nat × va_E)]) (mid' := wTS B G rc.2.2 ++ [((o1, .inl (G 3, 1, .inr (.inl (hO rc.1 f1 rc.2.1)))) : Nat × va_E)]) (post := [((o2, .inl (G 4, 1, .inr (.inr (.inr (.inl f2))))) : Nat × va_E)]) hP hD hkp hQ
  have hP : va_P D vwCl (lwW a B G o1 o2 rc.2.2 M (hO rc.1 f1 rc.2.1) f2) H1 := by rw [lwW_1]; exact hP
  have hD : va_D A (lwW a B G o1 o2 rc.2.2 M (hO rc.1 f1 rc.2.1) f2) := lwD hD0
  clear hQ hz hkp
  generalize H1 = H at hP hS ⊢
  refine W.widen (k := cells + 3) (n := slots + 18) (show cells + 3 ≤ cells + 3 by omega) (show slots + 18 ≤ slots + 18 by omega) ?_
  refine lv_istore (lv' := [(6, .int (hk_release rc.1)), (5, .int (nI i)), (4, .ref o2), (3, .ref o1), (2, .ref (a 0)), (1, .ref (B 9 0)), (0, .ref b)]) hx hb dL_law_1674 hl (by decide) rfl (fun ls hl => ?_)
  refine lv_aload_n hx hb dL_law_1676 rfl (lv_at hl 4 rfl) ?_
  refine lv_aload_n hx hb dL_law_1677 rfl (lv_at hl 6 rfl) ?_
  refine lv_iload hx hb dL_law_1678 (lv_at hl 1 rfl) ?_
  refine lv_iconst (v := 1) hx hb dL_law_1680 (by decide) ?_
  refine lv_iadd hx hb dL_law_1681 ?_
  refine va_sld hx hb hX hbl hbA hS h1 dL_law_1682 ?_
  refine lv_aload_n hx hb dL_law_1683 rfl (lv_at hl 6 rfl) ?_
  refine lv_iload hx hb dL_law_1684 (lv_at hl 1 rfl) ?_
  refine lv_iconst (v := 2) hx hb dL_law_1686 (by decide) ?_
  refine lv_iadd hx hb dL_law_1687 ?_
  refine va_sld hx hb hX hbl hbA hS h2 dL_law_1688 ?_
  refine jVmI C dL_law_1689 (k_X9_release l D G a N2 M (xs (nI i + 1).toNatClampNeg) (xs (nI i + 2).toNatClampNeg) rm e2) jy_X9_release jq_39_17 jq_39_18 jq_39_19 ⟨rfl, rfl, Nat.le_of_ble_eq_true rfl, Nat.le_of_ble_eq_true rfl⟩ ⟨by show cells + 3 ≤ 603072; omega, by show slots + 18 ≤ 7174250; omega⟩ (jMidP (pre := []) (mid := wM a G M) (post := wTS B G rc.2.2 ++ ([((o1, .inl (G 3, 1, .inr (.inl (hO rc.1 f1 rc.2.1)))) : Nat × va_E)] ++ [((o2, .inl (G 4, 1, .inr (.inr (.inr (.inl f2))))) : Nat × va_E)])) hP) (jMidD (pre := []) (mid := wM a G M) (post := wTS B G rc.2.2 ++ ([((o1, .inl (G 3, 1, .inr (.inl (hO rc.1 f1 rc.2.1)))) : Nat × va_E)] ++ [((o2, .inl (G 4, 1, .inr (.inr (.inr (.inl f2))))) : Nat × va_E)])) hD) hA hS (ci := 11) (iw := 0) rfl rfl rfl hl (As := [.int (xs (nI i + 1).toNatClampNeg), .int (xs (nI i + 2).toNatClampNeg)]) (rest := []) rfl (Nat.le_of_ble_eq_true rfl) (fun H1 locs hQ hz hkp hS => ?_)
  have hP : va_P D vwCl (lwW a B G o1 o2 rc.2.2 rm.2 (hO rc.1 f1 rc.2.1) f2) H1 := jMidJoin (pre := []) (mid := wM a G M) (mid' := wM a G rm.2) (post := wTS B G rc.2.2 ++ ([((o1, .inl (G 3, 1, .inr (.inl (hO rc.1 f1 rc.2.1)))) : Nat × va_E)] ++ [((o2, .inl (G 4, 1, .inr (.inr (.inr (.inl f2))))) : Nat × va_E)])) hP hD hkp hQ
  have hD : va_D A (lwW a B G o1 o2 rc.2.2 rm.2 (hO rc.1 f1 rc.2.1) f2) := lwD hD0
  clear hQ hz hkp
  generalize H1 = H at hP hS ⊢
  refine lv_istore (lv' := [(7, .int rm.1), (6, .int (hk_release rc.1)), (5, .int (nI i)), (4, .ref o2), (3, .ref o1), (2, .ref (a 0)), (1, .ref (B 9 0)), (0, .ref b)]) hx hb dL_law_1692 hl (by decide) rfl (fun ls hl => ?_)
  refine lv_aload_n hx hb dL_law_1694 rfl (lv_at hl 5 rfl) ?_
  refine jVpI C dL_law_1695 (k_X9_thrown l D G a N2 rm.2 (rm.2 0 0) rfl) jy_X9_thrown jq_15_8 jq_15_9 jq_15_10 ⟨rfl, rfl, Nat.le_of_ble_eq_true rfl, Nat.le_of_ble_eq_true rfl⟩ ⟨by show cells + 3 ≤ 603072; omega, by show slots + 18 ≤ 7174250; omega⟩ (jMidP (pre := []) (mid := wM a G rm.2) (post := wTS B G rc.2.2 ++ ([((o1, .inl (G 3, 1, .inr (.inl (hO rc.1 f1 rc.2.1)))) : Nat × va_E)] ++ [((o2, .inl (G 4, 1, .inr (.inr (.inr (.inl f2))))) : Nat × va_E)])) hP) (ci := 11) (iw := 0) rfl rfl rfl hl (As := []) (rest := []) rfl (Nat.le_of_ble_eq_true rfl) ?_
  refine lv_iload hx hb dL_law_1698 (lv_at hl 1 rfl) ?_
  refine lv_icmp_eq (tgt := 1705) hx hb dL_law_1700 (by decide) (fun _ => ?_) (fun h => absurd ht h)
  refine lv_iload hx hb dL_law_1705 (lv_at hl 1 rfl) ?_
  refine lv_if_ne (tgt := 1722) hx hb dL_law_1707 (by decide) (fun _ => ?_) (fun hz0 => ?_)
  · refine lv_goto (tgt := 2403) hx hb dL_law_1722 (by decide) ?_
    exact kk rc.2.2 rm.2 (hO rc.1 f1 rc.2.1) f2 ls H locs hR2 hP hD hS (lv_sub hl [2, 3, 4, 5, 6, 7] rfl)
  · have hk0 : rc.1 = 0 := by
      rcases hk with hk | hk | hk
      · exact hk
      · rw [hk] at hz0; exact absurd hz0 (by decide)
      · rw [hk] at hz0; exact absurd hz0 (by decide)
    refine lv_aload_n hx hb dL_law_1710 rfl (lv_at hl 4 rfl) ?_
    refine lv_iconst (v := 0) hx hb dL_law_1711 (by decide) ?_
    rw [lwW_1] at hP
    refine va_lald (n := 1) hx hb hK hP ((wM a G rm.2).length + (wTS B G rc.2.2).length) 3 (jAt1 _ _ _ _) rfl (inb_of (by decide)) dL_law_1712 ?_
    rw [← lwW_1] at hP
    refine lv_iload hx hb dL_law_1713 (lv_at hl 0 rfl) ?_
    refine lv_i2l hx hb dL_law_1715 rfl ?_
    refine W.lcmp hx hb dL_law_1716 ?_
    have hzz : lg_cmp ((hO rc.1 f1 rc.2.1) (0 : Int32).toNatClampNeg) rm.1.toInt64 = 0 := lgc (by unfold hO; rw [if_pos hk0, hv hk0]; rfl)
    refine lv_if_eq (tgt := 1722) hx hb dL_law_1717 (by decide) (fun _ => ?_) (fun h => absurd hzz h)
    refine lv_goto (tgt := 2403) hx hb dL_law_1722 (by decide) ?_
    exact kk rc.2.2 rm.2 (hO rc.1 f1 rc.2.1) f2 ls H locs hR2 hP hD hS (lv_sub hl [2, 3, 4, 5, 6, 7] rfl)
def jE_exchange (Rl : (Nat → Nat → Nat → Int32) → (Nat → Nat → Int32) → Prop) : Prop := ∀ (S : Nat → Nat → Nat → Int32) (M : Nat → Nat → Int32) (v1 v2 v3 : Int32), Rl S M → ∃ (N1 : Nat) (rc : _) (N2 : Nat) (rm : _), F_X8_exchange N1 S v1 v2 v3 = some rc ∧ F_X9_exchange N2 M v1 v2 v3 = some rm ∧ (rc.1 = 0 ∨ rc.1 = 1 ∨ rc.1 = 4) ∧ rm.2 0 0 = hk_exchange rc.1 ∧ (rc.1 = 0 → rc.2.1 = rm.1) ∧ Rl rc.2.2 rm.2
theorem hy_exchange : hY yL_exchange cL_exchange 6 [(0, 12, 15, 13), (0, 12, 19, 17)] 5 := ⟨by decide +kernel, jq_40_3, jq_6_7⟩
set_option maxHeartbeats 4000000 in
set_option maxRecDepth 100000 in
theorem lc_exchange {p : Program} {l : Launch} {e : Env} {s : State} {m : MethodId} {args : Array Value} {below : List Frame} {meth : Method} {c : Code} {Q : State → Prop} {D : va_G} {G : Nat → ClassId} {A : Nat → Prop} {ks va : Nat → Nat} {b L i : Nat} {xs : Nat → Int32} {a : Nat → Nat} {B : Nat → Nat → Nat} {o1 o2 : Nat} {Rl : (Nat → Nat → Nat → Int32) → (Nat → Nat → Int32) → Prop} {ret : Option FieldType}
    (C : Cx p s m args meth c cL_law 9 RL ret D G) (hl0 : l.stackTraces = false) (hZ : jZ ks va A s s.heap) (hC : jC s) (hA : ∀ q : Nat, s.heap.size ≤ q → A q) (hX : va_X b L xs s s.heap) (hbl : b < s.heap.size) (hbA : ¬ A b) (h0 : vp_in (nI i) L) (h1 : vp_in (nI i + 1) L) (h2 : vp_in (nI i + 2) L) (h3 : vp_in (nI i + 3) L) (h4 : vp_in (nI i + 4) L) (hE : jE_exchange Rl) : ∀ (S : Nat → Nat → Nat → Int32) (M : Nat → Nat → Int32) (f1 : Nat → Int64) (f2 : Nat → UInt64) (ls : Array Slot) (H : Heap) (locs : List Loc) (cells slots : Nat), cells + 3 ≤ 603072 → slots + 18 ≤ 7174250 → Rl S M → va_P D vwCl (lwW a B G o1 o2 S M f1 f2) H → va_D A (lwW a B G o1 o2 S M f1 f2) → va_S A s.heap H locs → lv_has ls 9 [(5, .int (nI i)), (4, .ref o2), (3, .ref o1), (2, .ref (a 0)), (1, .ref (B 9 0)), (0, .ref b)] → (∀ (S : Nat → Nat → Nat → Int32) (M : Nat → Nat → Int32) (f1 : Nat → Int64) (f2 : Nat → UInt64) (ls : Array Slot) (H : Heap) (locs : List Loc), Rl S M → va_P D vwCl (lwW a B G o1 o2 S M f1 f2) H → va_D A (lwW a B G o1 o2 S M f1 f2) → va_S A s.heap H locs → lv_has ls 9 [(5, .int (nI i)), (4, .ref o2), (3, .ref o1), (2, .ref (a 0)), (1, .ref (B 9 0)), (0, .ref b)] → W p l e room_1 s m args below meth c H locs (cells + 3) (slots + 18) Q (F0 m 2403 ls [])) → W p l e room_1 s m args below meth c H locs cells slots Q (F0 m 1725 ls []) := by
  intro S M f1 f2 ls H locs cells slots hcc hcs hR hP hD hS hl kk
  have hD0 := hD
  obtain ⟨hx, hb, hr, hml, hts, hown, hlocks, hK0⟩ := id C
  have hK := hK0.1
  refine lv_aload_n hx hb dL_law_1725 rfl (lv_at hl 4 rfl) ?_
  refine lv_aload_n hx hb dL_law_1726 rfl (lv_at hl 5 rfl) ?_
  refine lv_iload hx hb dL_law_1727 (lv_at hl 0 rfl) ?_
  refine lv_iconst (v := 1) hx hb dL_law_1729 (by decide) ?_
  refine lv_iadd hx hb dL_law_1730 ?_
  refine va_sld hx hb hX hbl hbA hS h1 dL_law_1731 ?_
  refine lv_aload_n hx hb dL_law_1732 rfl (lv_at hl 5 rfl) ?_
  refine lv_iload hx hb dL_law_1733 (lv_at hl 0 rfl) ?_
  refine lv_iconst (v := 2) hx hb dL_law_1735 (by decide) ?_
  refine lv_iadd hx hb dL_law_1736 ?_
  refine va_sld hx hb hX hbl hbA hS h2 dL_law_1737 ?_
  refine lv_aload_n hx hb dL_law_1738 rfl (lv_at hl 5 rfl) ?_
  refine lv_iload hx hb dL_law_1739 (lv_at hl 0 rfl) ?_
  refine lv_iconst (v := 3) hx hb dL_law_1741 (by decide) ?_
  refine lv_iadd hx hb dL_law_1742 ?_
  refine va_sld hx hb hX hbl hbA hS h3 dL_law_1743 ?_
  refine lv_aload_n hx hb dL_law_1744 rfl (lv_at hl 2 rfl) ?_
  obtain ⟨N1, rc, N2, rm, e1, e2, hk, ht, hv, hR2⟩ := hE S M (xs (nI i + 1).toNatClampNeg) (xs (nI i + 2).toNatClampNeg) (xs (nI i + 3).toNatClampNeg) hR
  rw [lwW_1] at hP hD
  refine jSh C dL_law_1745 (kh_exchange l hl0 D G B ks va o1 f1 N1 S (xs (nI i + 1).toNatClampNeg) (xs (nI i + 2).toNatClampNeg) (xs (nI i + 3).toNatClampNeg) rc e1 hk) hy_exchange jq_40_1 jq_40_2 ⟨Nat.le_of_ble_eq_true rfl, Nat.le_of_ble_eq_true rfl⟩ ⟨by show cells + 3 ≤ 603072; omega, by show slots + 18 ≤ 7174250; omega⟩ hZ hC (jMidP (pre := wM a G M) (mid := wTS B G S ++ [((o1, .inl (G 3, 1, .inr (.inl f1))) : Nat × va_E)]) (post := [((o2, .inl (G 4, 1, .inr (.inr (.inr (.inl f2))))) : Nat × va_E)]) hP) (jMidD (pre := wM a G M) (mid := wTS B G S ++ [((o1, .inl (G 3, 1, .inr (.inl f1))) : Nat × va_E)]) (post := [((o2, .inl (G 4, 1, .inr (.inr (.inr (.inl f2))))) : Nat × va_E)]) hD) hA hS hl (As := [.ref (B 9 0), .int (xs (nI i + 1).toNatClampNeg), .int (xs (nI i + 2).toNatClampNeg), .int (xs (nI i + 3).toNatClampNeg), .ref o1]) (rest := []) rfl (Nat.le_of_ble_eq_true rfl) (fun H1 locs hQ hz hkp hS => ?_)
  have hP := jMidJoin (pre := wM a G M) (mid := wTS B G S ++ [((o1, .inl (G 3, 1, .inr (.inl f1))) : Nat × va_E)]) (mid' := wTS B G rc.2.2 ++ [((o1, .inl (G 3, 1, .inr (.inl (hO rc.1 f1 rc.2.1)))) : Nat × va_E)]) (post := [((o2, .inl (G 4, 1, .inr (.inr (.inr (.inl f2))))) : Nat × va_E)]) hP hD hkp hQ
  have hP : va_P D vwCl (lwW a B G o1 o2 rc.2.2 M (hO rc.1 f1 rc.2.1) f2) H1 := by rw [lwW_1]; exact hP
  have hD : va_D A (lwW a B G o1 o2 rc.2.2 M (hO rc.1 f1 rc.2.1) f2) := lwD hD0
  clear hQ hz hkp
  generalize H1 = H at hP hS ⊢
  refine W.widen (k := cells + 3) (n := slots + 18) (show cells + 3 ≤ cells + 3 by omega) (show slots + 18 ≤ slots + 18 by omega) ?_
  refine lv_istore (lv' := [(6, .int (hk_exchange rc.1)), (5, .int (nI i)), (4, .ref o2), (3, .ref o1), (2, .ref (a 0)), (1, .ref (B 9 0)), (0, .ref b)]) hx hb dL_law_1748 hl (by decide) rfl (fun ls hl => ?_)
  refine lv_aload_n hx hb dL_law_1750 rfl (lv_at hl 4 rfl) ?_
  refine lv_aload_n hx hb dL_law_1751 rfl (lv_at hl 6 rfl) ?_
  refine lv_iload hx hb dL_law_1752 (lv_at hl 1 rfl) ?_
  refine lv_iconst (v := 1) hx hb dL_law_1754 (by decide) ?_
  refine lv_iadd hx hb dL_law_1755 ?_
  refine va_sld hx hb hX hbl hbA hS h1 dL_law_1756 ?_
  refine lv_aload_n hx hb dL_law_1757 rfl (lv_at hl 6 rfl) ?_
  refine lv_iload hx hb dL_law_1758 (lv_at hl 1 rfl) ?_
  refine lv_iconst (v := 2) hx hb dL_law_1760 (by decide) ?_
  refine lv_iadd hx hb dL_law_1761 ?_
  refine va_sld hx hb hX hbl hbA hS h2 dL_law_1762 ?_
  refine lv_aload_n hx hb dL_law_1763 rfl (lv_at hl 6 rfl) ?_
  refine lv_iload hx hb dL_law_1764 (lv_at hl 1 rfl) ?_
  refine lv_iconst (v := 3) hx hb dL_law_1766 (by decide) ?_
  refine lv_iadd hx hb dL_law_1767 ?_
  refine va_sld hx hb hX hbl hbA hS h3 dL_law_1768 ?_
  refine jVmI C dL_law_1769 (k_X9_exchange l D G a N2 M (xs (nI i + 1).toNatClampNeg) (xs (nI i + 2).toNatClampNeg) (xs (nI i + 3).toNatClampNeg) rm e2) jy_X9_exchange jq_40_16 jq_40_17 jq_40_18 ⟨rfl, rfl, Nat.le_of_ble_eq_true rfl, Nat.le_of_ble_eq_true rfl⟩ ⟨by show cells + 3 ≤ 603072; omega, by show slots + 18 ≤ 7174250; omega⟩ (jMidP (pre := []) (mid := wM a G M) (post := wTS B G rc.2.2 ++ ([((o1, .inl (G 3, 1, .inr (.inl (hO rc.1 f1 rc.2.1)))) : Nat × va_E)] ++ [((o2, .inl (G 4, 1, .inr (.inr (.inr (.inl f2))))) : Nat × va_E)])) hP) (jMidD (pre := []) (mid := wM a G M) (post := wTS B G rc.2.2 ++ ([((o1, .inl (G 3, 1, .inr (.inl (hO rc.1 f1 rc.2.1)))) : Nat × va_E)] ++ [((o2, .inl (G 4, 1, .inr (.inr (.inr (.inl f2))))) : Nat × va_E)])) hD) hA hS (ci := 11) (iw := 0) rfl rfl rfl hl (As := [.int (xs (nI i + 1).toNatClampNeg), .int (xs (nI i + 2).toNatClampNeg), .int (xs (nI i + 3).toNatClampNeg)]) (rest := []) rfl (Nat.le_of_ble_eq_true rfl) (fun H1 locs hQ hz hkp hS => ?_)
  have hP : va_P D vwCl (lwW a B G o1 o2 rc.2.2 rm.2 (hO rc.1 f1 rc.2.1) f2) H1 := jMidJoin (pre := []) (mid := wM a G M) (mid' := wM a G rm.2) (post := wTS B G rc.2.2 ++ ([((o1, .inl (G 3, 1, .inr (.inl (hO rc.1 f1 rc.2.1)))) : Nat × va_E)] ++ [((o2, .inl (G 4, 1, .inr (.inr (.inr (.inl f2))))) : Nat × va_E)])) hP hD hkp hQ
  have hD : va_D A (lwW a B G o1 o2 rc.2.2 rm.2 (hO rc.1 f1 rc.2.1) f2) := lwD hD0
  clear hQ hz hkp
  generalize H1 = H at hP hS ⊢
  refine lv_istore (lv' := [(7, .int rm.1), (6, .int (hk_exchange rc.1)), (5, .int (nI i)), (4, .ref o2), (3, .ref o1), (2, .ref (a 0)), (1, .ref (B 9 0)), (0, .ref b)]) hx hb dL_law_1772 hl (by decide) rfl (fun ls hl => ?_)
  refine lv_aload_n hx hb dL_law_1774 rfl (lv_at hl 5 rfl) ?_
  refine jVpI C dL_law_1775 (k_X9_thrown l D G a N2 rm.2 (rm.2 0 0) rfl) jy_X9_thrown jq_15_8 jq_15_9 jq_15_10 ⟨rfl, rfl, Nat.le_of_ble_eq_true rfl, Nat.le_of_ble_eq_true rfl⟩ ⟨by show cells + 3 ≤ 603072; omega, by show slots + 18 ≤ 7174250; omega⟩ (jMidP (pre := []) (mid := wM a G rm.2) (post := wTS B G rc.2.2 ++ ([((o1, .inl (G 3, 1, .inr (.inl (hO rc.1 f1 rc.2.1)))) : Nat × va_E)] ++ [((o2, .inl (G 4, 1, .inr (.inr (.inr (.inl f2))))) : Nat × va_E)])) hP) (ci := 11) (iw := 0) rfl rfl rfl hl (As := []) (rest := []) rfl (Nat.le_of_ble_eq_true rfl) ?_
  refine lv_iload hx hb dL_law_1778 (lv_at hl 1 rfl) ?_
  refine lv_icmp_eq (tgt := 1785) hx hb dL_law_1780 (by decide) (fun _ => ?_) (fun h => absurd ht h)
  refine lv_iload hx hb dL_law_1785 (lv_at hl 1 rfl) ?_
  refine lv_if_ne (tgt := 1802) hx hb dL_law_1787 (by decide) (fun _ => ?_) (fun hz0 => ?_)
  · refine lv_goto (tgt := 2403) hx hb dL_law_1802 (by decide) ?_
    exact kk rc.2.2 rm.2 (hO rc.1 f1 rc.2.1) f2 ls H locs hR2 hP hD hS (lv_sub hl [2, 3, 4, 5, 6, 7] rfl)
  · have hk0 : rc.1 = 0 := by
      rcases hk with hk | hk | hk
      · exact hk
      · rw [hk] at hz0; exact absurd hz0 (by decide)
      · rw [hk] at hz0; exact absurd hz0 (by decide)
    refine lv_aload_n hx hb dL_law_1790 rfl (lv_at hl 4 rfl) ?_
    refine lv_iconst (v := 0) hx hb dL_law_1791 (by decide) ?_
    rw [lwW_1] at hP
    refine va_lald (n := 1) hx hb hK hP ((wM a G rm.2).length + (wTS B G rc.2.2).length) 3 (jAt1 _ _ _ _) rfl (inb_of (by decide)) dL_law_1792 ?_
    rw [← lwW_1] at hP
    refine lv_iload hx hb dL_law_1793 (lv_at hl 0 rfl) ?_
    refine lv_i2l hx hb dL_law_1795 rfl ?_
    refine W.lcmp hx hb dL_law_1796 ?_
    have hzz : lg_cmp ((hO rc.1 f1 rc.2.1) (0 : Int32).toNatClampNeg) rm.1.toInt64 = 0 := lgc (by unfold hO; rw [if_pos hk0, hv hk0]; rfl)
    refine lv_if_eq (tgt := 1802) hx hb dL_law_1797 (by decide) (fun _ => ?_) (fun h => absurd hzz h)
    refine lv_goto (tgt := 2403) hx hb dL_law_1802 (by decide) ?_
    exact kk rc.2.2 rm.2 (hO rc.1 f1 rc.2.1) f2 ls H locs hR2 hP hD hS (lv_sub hl [2, 3, 4, 5, 6, 7] rfl)
def jE_subscription (Rl : (Nat → Nat → Nat → Int32) → (Nat → Nat → Int32) → Prop) : Prop := ∀ (S : Nat → Nat → Nat → Int32) (M : Nat → Nat → Int32) (v1 v2 : Int32), Rl S M → ∃ (N1 : Nat) (rc : _) (N2 : Nat) (rm : _), F_X8_subscription N1 S v1 v2 = some rc ∧ F_X9_subscription N2 M v1 v2 = some rm ∧ (rc.1 = 0 ∨ rc.1 = 1 ∨ rc.1 = 2) ∧ rm.2 0 0 = hk_subscription rc.1 ∧ (rc.1 = 0 → rc.2.1 = rm.1) ∧ Rl rc.2.2 rm.2
theorem hy_subscription : hY yL_subscription cL_subscription 5 [(0, 10, 13, 13), (0, 10, 17, 15)] 4 := ⟨by decide +kernel, jq_41_2, jq_6_7⟩
set_option maxHeartbeats 4000000 in
set_option maxRecDepth 100000 in
theorem lc_subscription {p : Program} {l : Launch} {e : Env} {s : State} {m : MethodId} {args : Array Value} {below : List Frame} {meth : Method} {c : Code} {Q : State → Prop} {D : va_G} {G : Nat → ClassId} {A : Nat → Prop} {ks va : Nat → Nat} {b L i : Nat} {xs : Nat → Int32} {a : Nat → Nat} {B : Nat → Nat → Nat} {o1 o2 : Nat} {Rl : (Nat → Nat → Nat → Int32) → (Nat → Nat → Int32) → Prop} {ret : Option FieldType}
    (C : Cx p s m args meth c cL_law 9 RL ret D G) (hl0 : l.stackTraces = false) (hZ : jZ ks va A s s.heap) (hC : jC s) (hA : ∀ q : Nat, s.heap.size ≤ q → A q) (hX : va_X b L xs s s.heap) (hbl : b < s.heap.size) (hbA : ¬ A b) (h0 : vp_in (nI i) L) (h1 : vp_in (nI i + 1) L) (h2 : vp_in (nI i + 2) L) (h3 : vp_in (nI i + 3) L) (h4 : vp_in (nI i + 4) L) (hE : jE_subscription Rl) : ∀ (S : Nat → Nat → Nat → Int32) (M : Nat → Nat → Int32) (f1 : Nat → Int64) (f2 : Nat → UInt64) (ls : Array Slot) (H : Heap) (locs : List Loc) (cells slots : Nat), cells + 3 ≤ 603072 → slots + 18 ≤ 7174250 → Rl S M → va_P D vwCl (lwW a B G o1 o2 S M f1 f2) H → va_D A (lwW a B G o1 o2 S M f1 f2) → va_S A s.heap H locs → lv_has ls 9 [(5, .int (nI i)), (4, .ref o2), (3, .ref o1), (2, .ref (a 0)), (1, .ref (B 9 0)), (0, .ref b)] → (∀ (S : Nat → Nat → Nat → Int32) (M : Nat → Nat → Int32) (f1 : Nat → Int64) (f2 : Nat → UInt64) (ls : Array Slot) (H : Heap) (locs : List Loc), Rl S M → va_P D vwCl (lwW a B G o1 o2 S M f1 f2) H → va_D A (lwW a B G o1 o2 S M f1 f2) → va_S A s.heap H locs → lv_has ls 9 [(5, .int (nI i)), (4, .ref o2), (3, .ref o1), (2, .ref (a 0)), (1, .ref (B 9 0)), (0, .ref b)] → W p l e room_1 s m args below meth c H locs (cells + 3) (slots + 18) Q (F0 m 2403 ls [])) → W p l e room_1 s m args below meth c H locs cells slots Q (F0 m 1805 ls []) := by
  intro S M f1 f2 ls H locs cells slots hcc hcs hR hP hD hS hl kk
  have hD0 := hD
  obtain ⟨hx, hb, hr, hml, hts, hown, hlocks, hK0⟩ := id C
  have hK := hK0.1
  refine lv_aload_n hx hb dL_law_1805 rfl (lv_at hl 4 rfl) ?_
  refine lv_aload_n hx hb dL_law_1806 rfl (lv_at hl 5 rfl) ?_
  refine lv_iload hx hb dL_law_1807 (lv_at hl 0 rfl) ?_
  refine lv_iconst (v := 1) hx hb dL_law_1809 (by decide) ?_
  refine lv_iadd hx hb dL_law_1810 ?_
  refine va_sld hx hb hX hbl hbA hS h1 dL_law_1811 ?_
  refine lv_aload_n hx hb dL_law_1812 rfl (lv_at hl 5 rfl) ?_
  refine lv_iload hx hb dL_law_1813 (lv_at hl 0 rfl) ?_
  refine lv_iconst (v := 2) hx hb dL_law_1815 (by decide) ?_
  refine lv_iadd hx hb dL_law_1816 ?_
  refine va_sld hx hb hX hbl hbA hS h2 dL_law_1817 ?_
  refine lv_aload_n hx hb dL_law_1818 rfl (lv_at hl 2 rfl) ?_
  obtain ⟨N1, rc, N2, rm, e1, e2, hk, ht, hv, hR2⟩ := hE S M (xs (nI i + 1).toNatClampNeg) (xs (nI i + 2).toNatClampNeg) hR
  rw [lwW_1] at hP hD
  refine jSh C dL_law_1819 (kh_subscription l hl0 D G B ks va o1 f1 N1 S (xs (nI i + 1).toNatClampNeg) (xs (nI i + 2).toNatClampNeg) rc e1 hk) hy_subscription jq_41_0 jq_41_1 ⟨Nat.le_of_ble_eq_true rfl, Nat.le_of_ble_eq_true rfl⟩ ⟨by show cells + 2 ≤ 603072; omega, by show slots + 12 ≤ 7174250; omega⟩ hZ hC (jMidP (pre := wM a G M) (mid := wTS B G S ++ [((o1, .inl (G 3, 1, .inr (.inl f1))) : Nat × va_E)]) (post := [((o2, .inl (G 4, 1, .inr (.inr (.inr (.inl f2))))) : Nat × va_E)]) hP) (jMidD (pre := wM a G M) (mid := wTS B G S ++ [((o1, .inl (G 3, 1, .inr (.inl f1))) : Nat × va_E)]) (post := [((o2, .inl (G 4, 1, .inr (.inr (.inr (.inl f2))))) : Nat × va_E)]) hD) hA hS hl (As := [.ref (B 9 0), .int (xs (nI i + 1).toNatClampNeg), .int (xs (nI i + 2).toNatClampNeg), .ref o1]) (rest := []) rfl (Nat.le_of_ble_eq_true rfl) (fun H1 locs hQ hz hkp hS => ?_)
  have hP := jMidJoin (pre := wM a G M) (mid := wTS B G S ++ [((o1, .inl (G 3, 1, .inr (.inl f1))) : Nat × va_E)]) (mid' := wTS B G rc.2.2 ++ [((o1, .inl (G 3, 1, .inr (.inl (hO rc.1 f1 rc.2.1)))) : Nat × va_E)]) (post := [((o2, .inl (G 4, 1, .inr (.inr (.inr (.inl f2))))) : Nat × va_E)]) hP hD hkp hQ
  have hP : va_P D vwCl (lwW a B G o1 o2 rc.2.2 M (hO rc.1 f1 rc.2.1) f2) H1 := by rw [lwW_1]; exact hP
  have hD : va_D A (lwW a B G o1 o2 rc.2.2 M (hO rc.1 f1 rc.2.1) f2) := lwD hD0
  clear hQ hz hkp
  generalize H1 = H at hP hS ⊢
  refine W.widen (k := cells + 3) (n := slots + 18) (show cells + 2 ≤ cells + 3 by omega) (show slots + 12 ≤ slots + 18 by omega) ?_
  refine lv_istore (lv' := [(6, .int (hk_subscription rc.1)), (5, .int (nI i)), (4, .ref o2), (3, .ref o1), (2, .ref (a 0)), (1, .ref (B 9 0)), (0, .ref b)]) hx hb dL_law_1822 hl (by decide) rfl (fun ls hl => ?_)
  refine lv_aload_n hx hb dL_law_1824 rfl (lv_at hl 4 rfl) ?_
  refine lv_aload_n hx hb dL_law_1825 rfl (lv_at hl 6 rfl) ?_
  refine lv_iload hx hb dL_law_1826 (lv_at hl 1 rfl) ?_
  refine lv_iconst (v := 1) hx hb dL_law_1828 (by decide) ?_
  refine lv_iadd hx hb dL_law_1829 ?_
  refine va_sld hx hb hX hbl hbA hS h1 dL_law_1830 ?_
  refine lv_aload_n hx hb dL_law_1831 rfl (lv_at hl 6 rfl) ?_
  refine lv_iload hx hb dL_law_1832 (lv_at hl 1 rfl) ?_
  refine lv_iconst (v := 2) hx hb dL_law_1834 (by decide) ?_
  refine lv_iadd hx hb dL_law_1835 ?_
  refine va_sld hx hb hX hbl hbA hS h2 dL_law_1836 ?_
  refine jVmI C dL_law_1837 (k_X9_subscription l D G a N2 M (xs (nI i + 1).toNatClampNeg) (xs (nI i + 2).toNatClampNeg) rm e2) jy_X9_subscription jq_41_9 jq_41_10 jq_41_11 ⟨rfl, rfl, Nat.le_of_ble_eq_true rfl, Nat.le_of_ble_eq_true rfl⟩ ⟨by show cells + 3 ≤ 603072; omega, by show slots + 18 ≤ 7174250; omega⟩ (jMidP (pre := []) (mid := wM a G M) (post := wTS B G rc.2.2 ++ ([((o1, .inl (G 3, 1, .inr (.inl (hO rc.1 f1 rc.2.1)))) : Nat × va_E)] ++ [((o2, .inl (G 4, 1, .inr (.inr (.inr (.inl f2))))) : Nat × va_E)])) hP) (jMidD (pre := []) (mid := wM a G M) (post := wTS B G rc.2.2 ++ ([((o1, .inl (G 3, 1, .inr (.inl (hO rc.1 f1 rc.2.1)))) : Nat × va_E)] ++ [((o2, .inl (G 4, 1, .inr (.inr (.inr (.inl f2))))) : Nat × va_E)])) hD) hA hS (ci := 11) (iw := 0) rfl rfl rfl hl (As := [.int (xs (nI i + 1).toNatClampNeg), .int (xs (nI i + 2).toNatClampNeg)]) (rest := []) rfl (Nat.le_of_ble_eq_true rfl) (fun H1 locs hQ hz hkp hS => ?_)
  have hP : va_P D vwCl (lwW a B G o1 o2 rc.2.2 rm.2 (hO rc.1 f1 rc.2.1) f2) H1 := jMidJoin (pre := []) (mid := wM a G M) (mid' := wM a G rm.2) (post := wTS B G rc.2.2 ++ ([((o1, .inl (G 3, 1, .inr (.inl (hO rc.1 f1 rc.2.1)))) : Nat × va_E)] ++ [((o2, .inl (G 4, 1, .inr (.inr (.inr (.inl f2))))) : Nat × va_E)])) hP hD hkp hQ
  have hD : va_D A (lwW a B G o1 o2 rc.2.2 rm.2 (hO rc.1 f1 rc.2.1) f2) := lwD hD0
  clear hQ hz hkp
  generalize H1 = H at hP hS ⊢
  refine lv_istore (lv' := [(7, .int rm.1), (6, .int (hk_subscription rc.1)), (5, .int (nI i)), (4, .ref o2), (3, .ref o1), (2, .ref (a 0)), (1, .ref (B 9 0)), (0, .ref b)]) hx hb dL_law_1840 hl (by decide) rfl (fun ls hl => ?_)
  refine lv_aload_n hx hb dL_law_1842 rfl (lv_at hl 5 rfl) ?_
  refine jVpI C dL_law_1843 (k_X9_thrown l D G a N2 rm.2 (rm.2 0 0) rfl) jy_X9_thrown jq_15_8 jq_15_9 jq_15_10 ⟨rfl, rfl, Nat.le_of_ble_eq_true rfl, Nat.le_of_ble_eq_true rfl⟩ ⟨by show cells + 3 ≤ 603072; omega, by show slots + 18 ≤ 7174250; omega⟩ (jMidP (pre := []) (mid := wM a G rm.2) (post := wTS B G rc.2.2 ++ ([((o1, .inl (G 3, 1, .inr (.inl (hO rc.1 f1 rc.2.1)))) : Nat × va_E)] ++ [((o2, .inl (G 4, 1, .inr (.inr (.inr (.inl f2))))) : Nat × va_E)])) hP) (ci := 11) (iw := 0) rfl rfl rfl hl (As := []) (rest := []) rfl (Nat.le_of_ble_eq_true rfl) ?_
  refine lv_iload hx hb dL_law_1846 (lv_at hl 1 rfl) ?_
  refine lv_icmp_eq (tgt := 1853) hx hb dL_law_1848 (by decide) (fun _ => ?_) (fun h => absurd ht h)
  refine lv_iload hx hb dL_law_1853 (lv_at hl 1 rfl) ?_
  refine lv_if_ne (tgt := 1870) hx hb dL_law_1855 (by decide) (fun _ => ?_) (fun hz0 => ?_)
  · refine lv_goto (tgt := 2403) hx hb dL_law_1870 (by decide) ?_
    exact kk rc.2.2 rm.2 (hO rc.1 f1 rc.2.1) f2 ls H locs hR2 hP hD hS (lv_sub hl [2, 3, 4, 5, 6, 7] rfl)
  · have hk0 : rc.1 = 0 := by
      rcases hk with hk | hk | hk
      · exact hk
      · rw [hk] at hz0; exact absurd hz0 (by decide)
      · rw [hk] at hz0; exact absurd hz0 (by decide)
    refine lv_aload_n hx hb dL_law_1858 rfl (lv_at hl 4 rfl) ?_
    refine lv_iconst (v := 0) hx hb dL_law_1859 (by decide) ?_
    rw [lwW_1] at hP
    refine va_lald (n := 1) hx hb hK hP ((wM a G rm.2).length + (wTS B G rc.2.2).length) 3 (jAt1 _ _ _ _) rfl (inb_of (by decide)) dL_law_1860 ?_
    rw [← lwW_1] at hP
    refine lv_iload hx hb dL_law_1861 (lv_at hl 0 rfl) ?_
    refine lv_i2l hx hb dL_law_1863 rfl ?_
    refine W.lcmp hx hb dL_law_1864 ?_
    have hzz : lg_cmp ((hO rc.1 f1 rc.2.1) (0 : Int32).toNatClampNeg) rm.1.toInt64 = 0 := lgc (by unfold hO; rw [if_pos hk0, hv hk0]; rfl)
    refine lv_if_eq (tgt := 1870) hx hb dL_law_1865 (by decide) (fun _ => ?_) (fun h => absurd hzz h)
    refine lv_goto (tgt := 2403) hx hb dL_law_1870 (by decide) ?_
    exact kk rc.2.2 rm.2 (hO rc.1 f1 rc.2.1) f2 ls H locs hR2 hP hD hS (lv_sub hl [2, 3, 4, 5, 6, 7] rfl)
def jE_partner (Rl : (Nat → Nat → Nat → Int32) → (Nat → Nat → Int32) → Prop) : Prop := ∀ (S : Nat → Nat → Nat → Int32) (M : Nat → Nat → Int32) (v1 : Int32), Rl S M → ∃ (N1 : Nat) (rc : _) (N2 : Nat) (rm : _), F_X8_partner N1 S v1 = some rc ∧ F_X9_partner N2 M v1 = some rm ∧ (rc.1 = 0 ∨ rc.1 = 1) ∧ rm.2 0 0 = hk_partner rc.1 ∧ (rc.1 = 0 → rc.2.1 = rm.1) ∧ Rl rc.2.2 rm.2 ∧ (rc.1 = 0 → vf_n64 (FP.f2d rc.2.1))
theorem hy_partner : hY yL_partner cL_partner 4 [(0, 9, 12, 13)] 3 := ⟨by decide +kernel, jq_41_15, jq_6_7⟩
set_option maxHeartbeats 4000000 in
set_option maxRecDepth 100000 in
theorem lc_partner {p : Program} {l : Launch} {e : Env} {s : State} {m : MethodId} {args : Array Value} {below : List Frame} {meth : Method} {c : Code} {Q : State → Prop} {D : va_G} {G : Nat → ClassId} {A : Nat → Prop} {ks va : Nat → Nat} {b L i : Nat} {xs : Nat → Int32} {a : Nat → Nat} {B : Nat → Nat → Nat} {o1 o2 : Nat} {Rl : (Nat → Nat → Nat → Int32) → (Nat → Nat → Int32) → Prop} {ret : Option FieldType}
    (C : Cx p s m args meth c cL_law 9 RL ret D G) (hl0 : l.stackTraces = false) (hZ : jZ ks va A s s.heap) (hC : jC s) (hA : ∀ q : Nat, s.heap.size ≤ q → A q) (hX : va_X b L xs s s.heap) (hbl : b < s.heap.size) (hbA : ¬ A b) (h0 : vp_in (nI i) L) (h1 : vp_in (nI i + 1) L) (h2 : vp_in (nI i + 2) L) (h3 : vp_in (nI i + 3) L) (h4 : vp_in (nI i + 4) L) (hE : jE_partner Rl) : ∀ (S : Nat → Nat → Nat → Int32) (M : Nat → Nat → Int32) (f1 : Nat → Int64) (f2 : Nat → UInt64) (ls : Array Slot) (H : Heap) (locs : List Loc) (cells slots : Nat), cells + 3 ≤ 603072 → slots + 18 ≤ 7174250 → Rl S M → va_P D vwCl (lwW a B G o1 o2 S M f1 f2) H → va_D A (lwW a B G o1 o2 S M f1 f2) → va_S A s.heap H locs → lv_has ls 9 [(5, .int (nI i)), (4, .ref o2), (3, .ref o1), (2, .ref (a 0)), (1, .ref (B 9 0)), (0, .ref b)] → (∀ (S : Nat → Nat → Nat → Int32) (M : Nat → Nat → Int32) (f1 : Nat → Int64) (f2 : Nat → UInt64) (ls : Array Slot) (H : Heap) (locs : List Loc), Rl S M → va_P D vwCl (lwW a B G o1 o2 S M f1 f2) H → va_D A (lwW a B G o1 o2 S M f1 f2) → va_S A s.heap H locs → lv_has ls 9 [(5, .int (nI i)), (4, .ref o2), (3, .ref o1), (2, .ref (a 0)), (1, .ref (B 9 0)), (0, .ref b)] → W p l e room_1 s m args below meth c H locs (cells + 3) (slots + 18) Q (F0 m 2403 ls [])) → W p l e room_1 s m args below meth c H locs cells slots Q (F0 m 1873 ls []) := by
  intro S M f1 f2 ls H locs cells slots hcc hcs hR hP hD hS hl kk
  have hD0 := hD
  obtain ⟨hx, hb, hr, hml, hts, hown, hlocks, hK0⟩ := id C
  have hK := hK0.1
  refine lv_aload_n hx hb dL_law_1873 rfl (lv_at hl 4 rfl) ?_
  refine lv_aload_n hx hb dL_law_1874 rfl (lv_at hl 5 rfl) ?_
  refine lv_iload hx hb dL_law_1875 (lv_at hl 0 rfl) ?_
  refine lv_iconst (v := 1) hx hb dL_law_1877 (by decide) ?_
  refine lv_iadd hx hb dL_law_1878 ?_
  refine va_sld hx hb hX hbl hbA hS h1 dL_law_1879 ?_
  refine lv_aload hx hb dL_law_1880 (lv_at hl 1 rfl) ?_
  obtain ⟨N1, rc, N2, rm, e1, e2, hk, ht, hv, hR2, hfin⟩ := hE S M (xs (nI i + 1).toNatClampNeg) hR
  have hP := lwP_2 hP
  have hD := lwD_2 hD
  refine jSh C dL_law_1882 (kh_partner l hl0 D G B ks va o2 f2 N1 S (xs (nI i + 1).toNatClampNeg) rc e1 hk hfin) hy_partner jq_41_13 jq_41_14 ⟨Nat.le_of_ble_eq_true rfl, Nat.le_of_ble_eq_true rfl⟩ ⟨by show cells + 1 ≤ 603072; omega, by show slots + 6 ≤ 7174250; omega⟩ hZ hC (jMidP (pre := wM a G M) (mid := wTS B G S ++ [((o2, .inl (G 4, 1, .inr (.inr (.inr (.inl f2))))) : Nat × va_E)]) (post := [((o1, .inl (G 3, 1, .inr (.inl f1))) : Nat × va_E)]) hP) (jMidD (pre := wM a G M) (mid := wTS B G S ++ [((o2, .inl (G 4, 1, .inr (.inr (.inr (.inl f2))))) : Nat × va_E)]) (post := [((o1, .inl (G 3, 1, .inr (.inl f1))) : Nat × va_E)]) hD) hA hS hl (As := [.ref (B 9 0), .int (xs (nI i + 1).toNatClampNeg), .ref o2]) (rest := []) rfl (Nat.le_of_ble_eq_true rfl) (fun H1 locs hQ hz hkp hS => ?_)
  have hP := jMidJoin (pre := wM a G M) (mid := wTS B G S ++ [((o2, .inl (G 4, 1, .inr (.inr (.inr (.inl f2))))) : Nat × va_E)]) (mid' := wTS B G rc.2.2 ++ [((o2, .inl (G 4, 1, .inr (.inr (.inr (.inl (hOd rc.1 f2 (FP.f2d rc.2.1))))))) : Nat × va_E)]) (post := [((o1, .inl (G 3, 1, .inr (.inl f1))) : Nat × va_E)]) hP hD hkp hQ
  have hP : va_P D vwCl (lwW a B G o1 o2 rc.2.2 M f1 (hOd rc.1 f2 (FP.f2d rc.2.1))) H1 := lwP_2b hP
  have hD : va_D A (lwW a B G o1 o2 rc.2.2 M f1 (hOd rc.1 f2 (FP.f2d rc.2.1))) := lwD hD0
  clear hQ hz hkp
  generalize H1 = H at hP hS ⊢
  refine W.widen (k := cells + 3) (n := slots + 18) (show cells + 1 ≤ cells + 3 by omega) (show slots + 6 ≤ slots + 18 by omega) ?_
  refine lv_istore (lv' := [(6, .int (hk_partner rc.1)), (5, .int (nI i)), (4, .ref o2), (3, .ref o1), (2, .ref (a 0)), (1, .ref (B 9 0)), (0, .ref b)]) hx hb dL_law_1885 hl (by decide) rfl (fun ls hl => ?_)
  refine lv_aload_n hx hb dL_law_1887 rfl (lv_at hl 4 rfl) ?_
  refine lv_aload_n hx hb dL_law_1888 rfl (lv_at hl 6 rfl) ?_
  refine lv_iload hx hb dL_law_1889 (lv_at hl 1 rfl) ?_
  refine lv_iconst (v := 1) hx hb dL_law_1891 (by decide) ?_
  refine lv_iadd hx hb dL_law_1892 ?_
  refine va_sld hx hb hX hbl hbA hS h1 dL_law_1893 ?_
  refine jVm C dL_law_1894 (k_X9_partner l D G a N2 M (xs (nI i + 1).toNatClampNeg) rm e2) jy_X9_partner jq_41_21 jq_41_22 jq_41_23 ⟨rfl, rfl, Nat.le_of_ble_eq_true rfl, Nat.le_of_ble_eq_true rfl⟩ ⟨by show cells + 3 ≤ 603072; omega, by show slots + 18 ≤ 7174250; omega⟩ (jMidP (pre := []) (mid := wM a G M) (post := wTS B G rc.2.2 ++ ([((o1, .inl (G 3, 1, .inr (.inl f1))) : Nat × va_E)] ++ [((o2, .inl (G 4, 1, .inr (.inr (.inr (.inl (hOd rc.1 f2 (FP.f2d rc.2.1))))))) : Nat × va_E)])) hP) (jMidD (pre := []) (mid := wM a G M) (post := wTS B G rc.2.2 ++ ([((o1, .inl (G 3, 1, .inr (.inl f1))) : Nat × va_E)] ++ [((o2, .inl (G 4, 1, .inr (.inr (.inr (.inl (hOd rc.1 f2 (FP.f2d rc.2.1))))))) : Nat × va_E)])) hD) hA hS (ci := 11) (iw := 0) rfl rfl rfl hl (As := [.int (xs (nI i + 1).toNatClampNeg)]) (rest := []) rfl (Nat.le_of_ble_eq_true rfl) (fun H1 locs hQ hz hkp hS => ?_)
  have hP : va_P D vwCl (lwW a B G o1 o2 rc.2.2 rm.2 f1 (hOd rc.1 f2 (FP.f2d rc.2.1))) H1 := jMidJoin (pre := []) (mid := wM a G M) (mid' := wM a G rm.2) (post := wTS B G rc.2.2 ++ ([((o1, .inl (G 3, 1, .inr (.inl f1))) : Nat × va_E)] ++ [((o2, .inl (G 4, 1, .inr (.inr (.inr (.inl (hOd rc.1 f2 (FP.f2d rc.2.1))))))) : Nat × va_E)])) hP hD hkp hQ
  have hD : va_D A (lwW a B G o1 o2 rc.2.2 rm.2 f1 (hOd rc.1 f2 (FP.f2d rc.2.1))) := lwD hD0
  clear hQ hz hkp
  generalize H1 = H at hP hS ⊢
  refine lv_fstore (lv' := [(7, .float rm.1), (6, .int (hk_partner rc.1)), (5, .int (nI i)), (4, .ref o2), (3, .ref o1), (2, .ref (a 0)), (1, .ref (B 9 0)), (0, .ref b)]) hx hb dL_law_1897 hl (by decide) rfl (fun ls hl => ?_)
  refine lv_aload_n hx hb dL_law_1899 rfl (lv_at hl 5 rfl) ?_
  refine jVpI C dL_law_1900 (k_X9_thrown l D G a N2 rm.2 (rm.2 0 0) rfl) jy_X9_thrown jq_15_8 jq_15_9 jq_15_10 ⟨rfl, rfl, Nat.le_of_ble_eq_true rfl, Nat.le_of_ble_eq_true rfl⟩ ⟨by show cells + 3 ≤ 603072; omega, by show slots + 18 ≤ 7174250; omega⟩ (jMidP (pre := []) (mid := wM a G rm.2) (post := wTS B G rc.2.2 ++ ([((o1, .inl (G 3, 1, .inr (.inl f1))) : Nat × va_E)] ++ [((o2, .inl (G 4, 1, .inr (.inr (.inr (.inl (hOd rc.1 f2 (FP.f2d rc.2.1))))))) : Nat × va_E)])) hP) (ci := 11) (iw := 0) rfl rfl rfl hl (As := []) (rest := []) rfl (Nat.le_of_ble_eq_true rfl) ?_
  refine lv_iload hx hb dL_law_1903 (lv_at hl 1 rfl) ?_
  refine lv_icmp_eq (tgt := 1910) hx hb dL_law_1905 (by decide) (fun _ => ?_) (fun h => absurd ht h)
  refine lv_iload hx hb dL_law_1910 (lv_at hl 1 rfl) ?_
  refine lv_if_ne (tgt := 1948) hx hb dL_law_1912 (by decide) (fun _ => ?_) (fun hz0 => ?_)
  · refine lv_goto (tgt := 2403) hx hb dL_law_1948 (by decide) ?_
    exact kk rc.2.2 rm.2 f1 (hOd rc.1 f2 (FP.f2d rc.2.1)) ls H locs hR2 hP hD hS (lv_sub hl [2, 3, 4, 5, 6, 7] rfl)
  · have hk0 : rc.1 = 0 := by
      rcases hk with hk | hk
      · exact hk
      · rw [hk] at hz0; exact absurd hz0 (by decide)
    refine lv_aload hx hb dL_law_1915 (lv_at hl 3 rfl) ?_
    refine lv_iconst (v := 0) hx hb dL_law_1917 (by decide) ?_
    have hP := lwP_2 hP
    refine va_dald (n := 1) hx hb hK hP ((wM a G rm.2).length + (wTS B G rc.2.2).length) 4 (jAt1 _ _ _ _) rfl (inb_of (by decide)) dL_law_1918 ?_
    have hP := lwP_2b hP
    refine lv_fload hx hb dL_law_1919 (lv_at hl 0 rfl) ?_
    refine lv_f2d hx hb dL_law_1921 (by rw [← hv hk0]; exact hfin hk0) ?_
    refine lv_dcmp hx hb dL_law_1922 ?_
    have hzz : Op.cmpValue (FP.dcmp ((hOd rc.1 f2 (FP.f2d rc.2.1)) (0 : Int32).toNatClampNeg) (FP.f2d rm.1)) CmpOp.l = 0 := by unfold hOd; rw [if_pos hk0, ← hv hk0]; exact fp_cmp (hfin hk0)
    refine lv_if_eq (tgt := 1948) hx hb dL_law_1923 (by decide) (fun _ => ?_) (fun h => absurd hzz h)
    refine lv_goto (tgt := 2403) hx hb dL_law_1948 (by decide) ?_
    exact kk rc.2.2 rm.2 f1 (hOd rc.1 f2 (FP.f2d rc.2.1)) ls H locs hR2 hP hD hS (lv_sub hl [2, 3, 4, 5, 6, 7] rfl)
def jE_fullness (Rl : (Nat → Nat → Nat → Int32) → (Nat → Nat → Int32) → Prop) : Prop := ∀ (S : Nat → Nat → Nat → Int32) (M : Nat → Nat → Int32) (v1 : Int32), Rl S M → ∃ (N1 : Nat) (rc : _) (N2 : Nat) (rm : _), F_X8_fullness N1 S v1 = some rc ∧ F_X9_fullness N2 M v1 = some rm ∧ (rc.1 = 0 ∨ rc.1 = 1 ∨ rc.1 = 6) ∧ rm.2 0 0 = hk_fullness rc.1 ∧ (rc.1 = 0 → rc.2.1 = rm.1) ∧ Rl rc.2.2 rm.2 ∧ (rc.1 = 0 → vf_n64 rc.2.1)
theorem hy_fullness : hY yL_fullness cL_fullness 4 [(0, 8, 11, 13), (0, 8, 14, 104)] 3 := ⟨by decide +kernel, jq_42_4, jq_6_7⟩
set_option maxHeartbeats 4000000 in
set_option maxRecDepth 100000 in
theorem lc_fullness {p : Program} {l : Launch} {e : Env} {s : State} {m : MethodId} {args : Array Value} {below : List Frame} {meth : Method} {c : Code} {Q : State → Prop} {D : va_G} {G : Nat → ClassId} {A : Nat → Prop} {ks va : Nat → Nat} {b L i : Nat} {xs : Nat → Int32} {a : Nat → Nat} {B : Nat → Nat → Nat} {o1 o2 : Nat} {Rl : (Nat → Nat → Nat → Int32) → (Nat → Nat → Int32) → Prop} {ret : Option FieldType}
    (C : Cx p s m args meth c cL_law 9 RL ret D G) (hl0 : l.stackTraces = false) (hZ : jZ ks va A s s.heap) (hC : jC s) (hA : ∀ q : Nat, s.heap.size ≤ q → A q) (hX : va_X b L xs s s.heap) (hbl : b < s.heap.size) (hbA : ¬ A b) (h0 : vp_in (nI i) L) (h1 : vp_in (nI i + 1) L) (h2 : vp_in (nI i + 2) L) (h3 : vp_in (nI i + 3) L) (h4 : vp_in (nI i + 4) L) (hE : jE_fullness Rl) : ∀ (S : Nat → Nat → Nat → Int32) (M : Nat → Nat → Int32) (f1 : Nat → Int64) (f2 : Nat → UInt64) (ls : Array Slot) (H : Heap) (locs : List Loc) (cells slots : Nat), cells + 3 ≤ 603072 → slots + 18 ≤ 7174250 → Rl S M → va_P D vwCl (lwW a B G o1 o2 S M f1 f2) H → va_D A (lwW a B G o1 o2 S M f1 f2) → va_S A s.heap H locs → lv_has ls 9 [(5, .int (nI i)), (4, .ref o2), (3, .ref o1), (2, .ref (a 0)), (1, .ref (B 9 0)), (0, .ref b)] → (∀ (S : Nat → Nat → Nat → Int32) (M : Nat → Nat → Int32) (f1 : Nat → Int64) (f2 : Nat → UInt64) (ls : Array Slot) (H : Heap) (locs : List Loc), Rl S M → va_P D vwCl (lwW a B G o1 o2 S M f1 f2) H → va_D A (lwW a B G o1 o2 S M f1 f2) → va_S A s.heap H locs → lv_has ls 9 [(5, .int (nI i)), (4, .ref o2), (3, .ref o1), (2, .ref (a 0)), (1, .ref (B 9 0)), (0, .ref b)] → W p l e room_1 s m args below meth c H locs (cells + 3) (slots + 18) Q (F0 m 2403 ls [])) → W p l e room_1 s m args below meth c H locs cells slots Q (F0 m 1951 ls []) := by
  intro S M f1 f2 ls H locs cells slots hcc hcs hR hP hD hS hl kk
  have hD0 := hD
  obtain ⟨hx, hb, hr, hml, hts, hown, hlocks, hK0⟩ := id C
  have hK := hK0.1
  refine lv_aload_n hx hb dL_law_1951 rfl (lv_at hl 4 rfl) ?_
  refine lv_aload_n hx hb dL_law_1952 rfl (lv_at hl 5 rfl) ?_
  refine lv_iload hx hb dL_law_1953 (lv_at hl 0 rfl) ?_
  refine lv_iconst (v := 1) hx hb dL_law_1955 (by decide) ?_
  refine lv_iadd hx hb dL_law_1956 ?_
  refine va_sld hx hb hX hbl hbA hS h1 dL_law_1957 ?_
  refine lv_aload hx hb dL_law_1958 (lv_at hl 1 rfl) ?_
  obtain ⟨N1, rc, N2, rm, e1, e2, hk, ht, hv, hR2, hfin⟩ := hE S M (xs (nI i + 1).toNatClampNeg) hR
  have hP := lwP_2 hP
  have hD := lwD_2 hD
  refine jSh C dL_law_1960 (kh_fullness l hl0 D G B ks va o2 f2 N1 S (xs (nI i + 1).toNatClampNeg) rc e1 hk) hy_fullness jq_42_2 jq_42_3 ⟨Nat.le_of_ble_eq_true rfl, Nat.le_of_ble_eq_true rfl⟩ ⟨by show cells + 2 ≤ 603072; omega, by show slots + 12 ≤ 7174250; omega⟩ hZ hC (jMidP (pre := wM a G M) (mid := wTS B G S ++ [((o2, .inl (G 4, 1, .inr (.inr (.inr (.inl f2))))) : Nat × va_E)]) (post := [((o1, .inl (G 3, 1, .inr (.inl f1))) : Nat × va_E)]) hP) (jMidD (pre := wM a G M) (mid := wTS B G S ++ [((o2, .inl (G 4, 1, .inr (.inr (.inr (.inl f2))))) : Nat × va_E)]) (post := [((o1, .inl (G 3, 1, .inr (.inl f1))) : Nat × va_E)]) hD) hA hS hl (As := [.ref (B 9 0), .int (xs (nI i + 1).toNatClampNeg), .ref o2]) (rest := []) rfl (Nat.le_of_ble_eq_true rfl) (fun H1 locs hQ hz hkp hS => ?_)
  have hP := jMidJoin (pre := wM a G M) (mid := wTS B G S ++ [((o2, .inl (G 4, 1, .inr (.inr (.inr (.inl f2))))) : Nat × va_E)]) (mid' := wTS B G rc.2.2 ++ [((o2, .inl (G 4, 1, .inr (.inr (.inr (.inl (hOd rc.1 f2 rc.2.1)))))) : Nat × va_E)]) (post := [((o1, .inl (G 3, 1, .inr (.inl f1))) : Nat × va_E)]) hP hD hkp hQ
  have hP : va_P D vwCl (lwW a B G o1 o2 rc.2.2 M f1 (hOd rc.1 f2 rc.2.1)) H1 := lwP_2b hP
  have hD : va_D A (lwW a B G o1 o2 rc.2.2 M f1 (hOd rc.1 f2 rc.2.1)) := lwD hD0
  clear hQ hz hkp
  generalize H1 = H at hP hS ⊢
  refine W.widen (k := cells + 3) (n := slots + 18) (show cells + 2 ≤ cells + 3 by omega) (show slots + 12 ≤ slots + 18 by omega) ?_
  refine lv_istore (lv' := [(6, .int (hk_fullness rc.1)), (5, .int (nI i)), (4, .ref o2), (3, .ref o1), (2, .ref (a 0)), (1, .ref (B 9 0)), (0, .ref b)]) hx hb dL_law_1963 hl (by decide) rfl (fun ls hl => ?_)
  refine lv_aload_n hx hb dL_law_1965 rfl (lv_at hl 4 rfl) ?_
  refine lv_aload_n hx hb dL_law_1966 rfl (lv_at hl 6 rfl) ?_
  refine lv_iload hx hb dL_law_1967 (lv_at hl 1 rfl) ?_
  refine lv_iconst (v := 1) hx hb dL_law_1969 (by decide) ?_
  refine lv_iadd hx hb dL_law_1970 ?_
  refine va_sld hx hb hX hbl hbA hS h1 dL_law_1971 ?_
  refine jVm C dL_law_1972 (k_X9_fullness l D G a N2 M (xs (nI i + 1).toNatClampNeg) rm e2) jy_X9_fullness jq_42_16 jq_42_17 jq_42_18 ⟨rfl, rfl, Nat.le_of_ble_eq_true rfl, Nat.le_of_ble_eq_true rfl⟩ ⟨by show cells + 3 ≤ 603072; omega, by show slots + 18 ≤ 7174250; omega⟩ (jMidP (pre := []) (mid := wM a G M) (post := wTS B G rc.2.2 ++ ([((o1, .inl (G 3, 1, .inr (.inl f1))) : Nat × va_E)] ++ [((o2, .inl (G 4, 1, .inr (.inr (.inr (.inl (hOd rc.1 f2 rc.2.1)))))) : Nat × va_E)])) hP) (jMidD (pre := []) (mid := wM a G M) (post := wTS B G rc.2.2 ++ ([((o1, .inl (G 3, 1, .inr (.inl f1))) : Nat × va_E)] ++ [((o2, .inl (G 4, 1, .inr (.inr (.inr (.inl (hOd rc.1 f2 rc.2.1)))))) : Nat × va_E)])) hD) hA hS (ci := 11) (iw := 0) rfl rfl rfl hl (As := [.int (xs (nI i + 1).toNatClampNeg)]) (rest := []) rfl (Nat.le_of_ble_eq_true rfl) (fun H1 locs hQ hz hkp hS => ?_)
  have hP : va_P D vwCl (lwW a B G o1 o2 rc.2.2 rm.2 f1 (hOd rc.1 f2 rc.2.1)) H1 := jMidJoin (pre := []) (mid := wM a G M) (mid' := wM a G rm.2) (post := wTS B G rc.2.2 ++ ([((o1, .inl (G 3, 1, .inr (.inl f1))) : Nat × va_E)] ++ [((o2, .inl (G 4, 1, .inr (.inr (.inr (.inl (hOd rc.1 f2 rc.2.1)))))) : Nat × va_E)])) hP hD hkp hQ
  have hD : va_D A (lwW a B G o1 o2 rc.2.2 rm.2 f1 (hOd rc.1 f2 rc.2.1)) := lwD hD0
  clear hQ hz hkp
  generalize H1 = H at hP hS ⊢
  refine lv_dstore (lv' := [(7, .double rm.1), (6, .int (hk_fullness rc.1)), (5, .int (nI i)), (4, .ref o2), (3, .ref o1), (2, .ref (a 0)), (1, .ref (B 9 0)), (0, .ref b)]) hx hb dL_law_1975 hl (by decide) rfl (fun ls hl => ?_)
  refine lv_aload_n hx hb dL_law_1977 rfl (lv_at hl 5 rfl) ?_
  refine jVpI C dL_law_1978 (k_X9_thrown l D G a N2 rm.2 (rm.2 0 0) rfl) jy_X9_thrown jq_15_8 jq_15_9 jq_15_10 ⟨rfl, rfl, Nat.le_of_ble_eq_true rfl, Nat.le_of_ble_eq_true rfl⟩ ⟨by show cells + 3 ≤ 603072; omega, by show slots + 18 ≤ 7174250; omega⟩ (jMidP (pre := []) (mid := wM a G rm.2) (post := wTS B G rc.2.2 ++ ([((o1, .inl (G 3, 1, .inr (.inl f1))) : Nat × va_E)] ++ [((o2, .inl (G 4, 1, .inr (.inr (.inr (.inl (hOd rc.1 f2 rc.2.1)))))) : Nat × va_E)])) hP) (ci := 11) (iw := 0) rfl rfl rfl hl (As := []) (rest := []) rfl (Nat.le_of_ble_eq_true rfl) ?_
  refine lv_iload hx hb dL_law_1981 (lv_at hl 1 rfl) ?_
  refine lv_icmp_eq (tgt := 1988) hx hb dL_law_1983 (by decide) (fun _ => ?_) (fun h => absurd ht h)
  refine lv_iload hx hb dL_law_1988 (lv_at hl 1 rfl) ?_
  refine lv_if_ne (tgt := 2025) hx hb dL_law_1990 (by decide) (fun _ => ?_) (fun hz0 => ?_)
  · refine lv_goto (tgt := 2403) hx hb dL_law_2025 (by decide) ?_
    exact kk rc.2.2 rm.2 f1 (hOd rc.1 f2 rc.2.1) ls H locs hR2 hP hD hS (lv_sub hl [2, 3, 4, 5, 6, 7] rfl)
  · have hk0 : rc.1 = 0 := by
      rcases hk with hk | hk | hk
      · exact hk
      · rw [hk] at hz0; exact absurd hz0 (by decide)
      · rw [hk] at hz0; exact absurd hz0 (by decide)
    refine lv_aload hx hb dL_law_1993 (lv_at hl 3 rfl) ?_
    refine lv_iconst (v := 0) hx hb dL_law_1995 (by decide) ?_
    have hP := lwP_2 hP
    refine va_dald (n := 1) hx hb hK hP ((wM a G rm.2).length + (wTS B G rc.2.2).length) 4 (jAt1 _ _ _ _) rfl (inb_of (by decide)) dL_law_1996 ?_
    have hP := lwP_2b hP
    refine lv_dload hx hb dL_law_1997 (lv_at hl 0 rfl) ?_
    refine lv_dcmp hx hb dL_law_1999 ?_
    have hzz : Op.cmpValue (FP.dcmp ((hOd rc.1 f2 rc.2.1) (0 : Int32).toNatClampNeg) rm.1) CmpOp.l = 0 := by unfold hOd; rw [if_pos hk0, ← hv hk0]; exact fp_cmp (hfin hk0)
    refine lv_if_eq (tgt := 2025) hx hb dL_law_2000 (by decide) (fun _ => ?_) (fun h => absurd hzz h)
    refine lv_goto (tgt := 2403) hx hb dL_law_2025 (by decide) ?_
    exact kk rc.2.2 rm.2 f1 (hOd rc.1 f2 rc.2.1) ls H locs hR2 hP hD hS (lv_sub hl [2, 3, 4, 5, 6, 7] rfl)
def jE_reason (Rl : (Nat → Nat → Nat → Int32) → (Nat → Nat → Int32) → Prop) : Prop := ∀ (S : Nat → Nat → Nat → Int32) (M : Nat → Nat → Int32) (v1 : Int32), Rl S M → ∃ (N1 : Nat) (rc : _) (N2 : Nat) (rm : _), F_X8_reason N1 S v1 = some rc ∧ F_X9_reason N2 M v1 = some rm ∧ (rc.1 = 0 ∨ rc.1 = 5) ∧ rm.2 0 0 = hk_reason rc.1 ∧ (rc.1 = 0 → rc.2.1 = rm.1) ∧ Rl rc.2.2 rm.2
theorem hy_reason : hY yL_reason cL_reason 4 [(0, 9, 12, 51)] 3 := ⟨by decide +kernel, jq_42_22, jq_6_7⟩
set_option maxHeartbeats 4000000 in
set_option maxRecDepth 100000 in
theorem lc_reason {p : Program} {l : Launch} {e : Env} {s : State} {m : MethodId} {args : Array Value} {below : List Frame} {meth : Method} {c : Code} {Q : State → Prop} {D : va_G} {G : Nat → ClassId} {A : Nat → Prop} {ks va : Nat → Nat} {b L i : Nat} {xs : Nat → Int32} {a : Nat → Nat} {B : Nat → Nat → Nat} {o1 o2 : Nat} {Rl : (Nat → Nat → Nat → Int32) → (Nat → Nat → Int32) → Prop} {ret : Option FieldType}
    (C : Cx p s m args meth c cL_law 9 RL ret D G) (hl0 : l.stackTraces = false) (hZ : jZ ks va A s s.heap) (hC : jC s) (hA : ∀ q : Nat, s.heap.size ≤ q → A q) (hX : va_X b L xs s s.heap) (hbl : b < s.heap.size) (hbA : ¬ A b) (h0 : vp_in (nI i) L) (h1 : vp_in (nI i + 1) L) (h2 : vp_in (nI i + 2) L) (h3 : vp_in (nI i + 3) L) (h4 : vp_in (nI i + 4) L) (hE : jE_reason Rl) : ∀ (S : Nat → Nat → Nat → Int32) (M : Nat → Nat → Int32) (f1 : Nat → Int64) (f2 : Nat → UInt64) (ls : Array Slot) (H : Heap) (locs : List Loc) (cells slots : Nat), cells + 3 ≤ 603072 → slots + 18 ≤ 7174250 → Rl S M → va_P D vwCl (lwW a B G o1 o2 S M f1 f2) H → va_D A (lwW a B G o1 o2 S M f1 f2) → va_S A s.heap H locs → lv_has ls 9 [(5, .int (nI i)), (4, .ref o2), (3, .ref o1), (2, .ref (a 0)), (1, .ref (B 9 0)), (0, .ref b)] → (∀ (S : Nat → Nat → Nat → Int32) (M : Nat → Nat → Int32) (f1 : Nat → Int64) (f2 : Nat → UInt64) (ls : Array Slot) (H : Heap) (locs : List Loc), Rl S M → va_P D vwCl (lwW a B G o1 o2 S M f1 f2) H → va_D A (lwW a B G o1 o2 S M f1 f2) → va_S A s.heap H locs → lv_has ls 9 [(5, .int (nI i)), (4, .ref o2), (3, .ref o1), (2, .ref (a 0)), (1, .ref (B 9 0)), (0, .ref b)] → W p l e room_1 s m args below meth c H locs (cells + 3) (slots + 18) Q (F0 m 2403 ls [])) → W p l e room_1 s m args below meth c H locs cells slots Q (F0 m 2028 ls []) := by
  intro S M f1 f2 ls H locs cells slots hcc hcs hR hP hD hS hl kk
  have hD0 := hD
  obtain ⟨hx, hb, hr, hml, hts, hown, hlocks, hK0⟩ := id C
  have hK := hK0.1
  refine lv_aload_n hx hb dL_law_2028 rfl (lv_at hl 4 rfl) ?_
  refine lv_aload_n hx hb dL_law_2029 rfl (lv_at hl 5 rfl) ?_
  refine lv_iload hx hb dL_law_2030 (lv_at hl 0 rfl) ?_
  refine lv_iconst (v := 1) hx hb dL_law_2032 (by decide) ?_
  refine lv_iadd hx hb dL_law_2033 ?_
  refine va_sld hx hb hX hbl hbA hS h1 dL_law_2034 ?_
  refine lv_if_eq (tgt := 2042) hx hb dL_law_2035 (by decide) (fun cz => ?_) (fun cz => ?_)
  · refine lv_iconst (v := 0) hx hb dL_law_2042 (by decide) ?_
    refine lv_aload_n hx hb dL_law_2043 rfl (lv_at hl 2 rfl) ?_
    obtain ⟨N1, rc, N2, rm, e1, e2, hk, ht, hv, hR2⟩ := hE S M 0 hR
    rw [lwW_1] at hP hD
    refine jSh C dL_law_2044 (kh_reason l hl0 D G B ks va o1 f1 N1 S 0 rc e1 hk) hy_reason jq_42_20 jq_42_21 ⟨Nat.le_of_ble_eq_true rfl, Nat.le_of_ble_eq_true rfl⟩ ⟨by show cells + 1 ≤ 603072; omega, by show slots + 6 ≤ 7174250; omega⟩ hZ hC (jMidP (pre := wM a G M) (mid := wTS B G S ++ [((o1, .inl (G 3, 1, .inr (.inl f1))) : Nat × va_E)]) (post := [((o2, .inl (G 4, 1, .inr (.inr (.inr (.inl f2))))) : Nat × va_E)]) hP) (jMidD (pre := wM a G M) (mid := wTS B G S ++ [((o1, .inl (G 3, 1, .inr (.inl f1))) : Nat × va_E)]) (post := [((o2, .inl (G 4, 1, .inr (.inr (.inr (.inl f2))))) : Nat × va_E)]) hD) hA hS hl (As := [.ref (B 9 0), .int 0, .ref o1]) (rest := []) rfl (Nat.le_of_ble_eq_true rfl) (fun H1 locs hQ hz hkp hS => ?_)
    have hP := jMidJoin (pre := wM a G M) (mid := wTS B G S ++ [((o1, .inl (G 3, 1, .inr (.inl f1))) : Nat × va_E)]) (mid' := wTS B G rc.2.2 ++ [((o1, .inl (G 3, 1, .inr (.inl (hO rc.1 f1 rc.2.1)))) : Nat × va_E)]) (post := [((o2, .inl (G 4, 1, .inr (.inr (.inr (.inl f2))))) : Nat × va_E)]) hP hD hkp hQ
    have hP : va_P D vwCl (lwW a B G o1 o2 rc.2.2 M (hO rc.1 f1 rc.2.1) f2) H1 := by rw [lwW_1]; exact hP
    have hD : va_D A (lwW a B G o1 o2 rc.2.2 M (hO rc.1 f1 rc.2.1) f2) := lwD hD0
    clear hQ hz hkp
    generalize H1 = H at hP hS ⊢
    refine W.widen (k := cells + 3) (n := slots + 18) (show cells + 1 ≤ cells + 3 by omega) (show slots + 6 ≤ slots + 18 by omega) ?_
    refine lv_istore (lv' := [(6, .int (hk_reason rc.1)), (5, .int (nI i)), (4, .ref o2), (3, .ref o1), (2, .ref (a 0)), (1, .ref (B 9 0)), (0, .ref b)]) hx hb dL_law_2047 hl (by decide) rfl (fun ls hl => ?_)
    refine lv_aload_n hx hb dL_law_2049 rfl (lv_at hl 4 rfl) ?_
    refine lv_aload_n hx hb dL_law_2050 rfl (lv_at hl 6 rfl) ?_
    refine lv_iload hx hb dL_law_2051 (lv_at hl 1 rfl) ?_
    refine lv_iconst (v := 1) hx hb dL_law_2053 (by decide) ?_
    refine lv_iadd hx hb dL_law_2054 ?_
    refine va_sld hx hb hX hbl hbA hS h1 dL_law_2055 ?_
    refine lv_if_eq (tgt := 2063) hx hb dL_law_2056 (by decide) (fun _ => ?_) (fun h => absurd cz h)
    refine lv_iconst (v := 0) hx hb dL_law_2063 (by decide) ?_
    refine jVmI C dL_law_2064 (k_X9_reason l D G a N2 M 0 rm e2) jy_X9_reason jq_43_3 jq_43_4 jq_43_5 ⟨rfl, rfl, Nat.le_of_ble_eq_true rfl, Nat.le_of_ble_eq_true rfl⟩ ⟨by show cells + 3 ≤ 603072; omega, by show slots + 18 ≤ 7174250; omega⟩ (jMidP (pre := []) (mid := wM a G M) (post := wTS B G rc.2.2 ++ ([((o1, .inl (G 3, 1, .inr (.inl (hO rc.1 f1 rc.2.1)))) : Nat × va_E)] ++ [((o2, .inl (G 4, 1, .inr (.inr (.inr (.inl f2))))) : Nat × va_E)])) hP) (jMidD (pre := []) (mid := wM a G M) (post := wTS B G rc.2.2 ++ ([((o1, .inl (G 3, 1, .inr (.inl (hO rc.1 f1 rc.2.1)))) : Nat × va_E)] ++ [((o2, .inl (G 4, 1, .inr (.inr (.inr (.inl f2))))) : Nat × va_E)])) hD) hA hS (ci := 11) (iw := 0) rfl rfl rfl hl (As := [.int 0]) (rest := []) rfl (Nat.le_of_ble_eq_true rfl) (fun H1 locs hQ hz hkp hS => ?_)
    have hP : va_P D vwCl (lwW a B G o1 o2 rc.2.2 rm.2 (hO rc.1 f1 rc.2.1) f2) H1 := jMidJoin (pre := []) (mid := wM a G M) (mid' := wM a G rm.2) (post := wTS B G rc.2.2 ++ ([((o1, .inl (G 3, 1, .inr (.inl (hO rc.1 f1 rc.2.1)))) : Nat × va_E)] ++ [((o2, .inl (G 4, 1, .inr (.inr (.inr (.inl f2))))) : Nat × va_E)])) hP hD hkp hQ
    have hD : va_D A (lwW a B G o1 o2 rc.2.2 rm.2 (hO rc.1 f1 rc.2.1) f2) := lwD hD0
    clear hQ hz hkp
    generalize H1 = H at hP hS ⊢
    refine lv_istore (lv' := [(7, .int rm.1), (6, .int (hk_reason rc.1)), (5, .int (nI i)), (4, .ref o2), (3, .ref o1), (2, .ref (a 0)), (1, .ref (B 9 0)), (0, .ref b)]) hx hb dL_law_2067 hl (by decide) rfl (fun ls hl => ?_)
    refine lv_aload_n hx hb dL_law_2069 rfl (lv_at hl 5 rfl) ?_
    refine jVpI C dL_law_2070 (k_X9_thrown l D G a N2 rm.2 (rm.2 0 0) rfl) jy_X9_thrown jq_15_8 jq_15_9 jq_15_10 ⟨rfl, rfl, Nat.le_of_ble_eq_true rfl, Nat.le_of_ble_eq_true rfl⟩ ⟨by show cells + 3 ≤ 603072; omega, by show slots + 18 ≤ 7174250; omega⟩ (jMidP (pre := []) (mid := wM a G rm.2) (post := wTS B G rc.2.2 ++ ([((o1, .inl (G 3, 1, .inr (.inl (hO rc.1 f1 rc.2.1)))) : Nat × va_E)] ++ [((o2, .inl (G 4, 1, .inr (.inr (.inr (.inl f2))))) : Nat × va_E)])) hP) (ci := 11) (iw := 0) rfl rfl rfl hl (As := []) (rest := []) rfl (Nat.le_of_ble_eq_true rfl) ?_
    refine lv_iload hx hb dL_law_2073 (lv_at hl 1 rfl) ?_
    refine lv_icmp_eq (tgt := 2080) hx hb dL_law_2075 (by decide) (fun _ => ?_) (fun h => absurd ht h)
    refine lv_iload hx hb dL_law_2080 (lv_at hl 1 rfl) ?_
    refine lv_if_ne (tgt := 2097) hx hb dL_law_2082 (by decide) (fun _ => ?_) (fun hz0 => ?_)
    · refine lv_goto (tgt := 2403) hx hb dL_law_2097 (by decide) ?_
      exact kk rc.2.2 rm.2 (hO rc.1 f1 rc.2.1) f2 ls H locs hR2 hP hD hS (lv_sub hl [2, 3, 4, 5, 6, 7] rfl)
    · have hk0 : rc.1 = 0 := by
        rcases hk with hk | hk
        · exact hk
        · rw [hk] at hz0; exact absurd hz0 (by decide)
      refine lv_aload_n hx hb dL_law_2085 rfl (lv_at hl 4 rfl) ?_
      refine lv_iconst (v := 0) hx hb dL_law_2086 (by decide) ?_
      rw [lwW_1] at hP
      refine va_lald (n := 1) hx hb hK hP ((wM a G rm.2).length + (wTS B G rc.2.2).length) 3 (jAt1 _ _ _ _) rfl (inb_of (by decide)) dL_law_2087 ?_
      rw [← lwW_1] at hP
      refine lv_iload hx hb dL_law_2088 (lv_at hl 0 rfl) ?_
      refine lv_i2l hx hb dL_law_2090 rfl ?_
      refine W.lcmp hx hb dL_law_2091 ?_
      have hzz : lg_cmp ((hO rc.1 f1 rc.2.1) (0 : Int32).toNatClampNeg) rm.1.toInt64 = 0 := lgc (by unfold hO; rw [if_pos hk0, hv hk0]; rfl)
      refine lv_if_eq (tgt := 2097) hx hb dL_law_2092 (by decide) (fun _ => ?_) (fun h => absurd hzz h)
      refine lv_goto (tgt := 2403) hx hb dL_law_2097 (by decide) ?_
      exact kk rc.2.2 rm.2 (hO rc.1 f1 rc.2.1) f2 ls H locs hR2 hP hD hS (lv_sub hl [2, 3, 4, 5, 6, 7] rfl)
  · refine lv_iconst (v := 1) hx hb dL_law_2038 (by decide) ?_
    refine lv_goto (tgt := 2043) hx hb dL_law_2039 (by decide) ?_
    refine lv_aload_n hx hb dL_law_2043 rfl (lv_at hl 2 rfl) ?_
    obtain ⟨N1, rc, N2, rm, e1, e2, hk, ht, hv, hR2⟩ := hE S M 1 hR
    rw [lwW_1] at hP hD
    refine jSh C dL_law_2044 (kh_reason l hl0 D G B ks va o1 f1 N1 S 1 rc e1 hk) hy_reason jq_42_20 jq_42_21 ⟨Nat.le_of_ble_eq_true rfl, Nat.le_of_ble_eq_true rfl⟩ ⟨by show cells + 1 ≤ 603072; omega, by show slots + 6 ≤ 7174250; omega⟩ hZ hC (jMidP (pre := wM a G M) (mid := wTS B G S ++ [((o1, .inl (G 3, 1, .inr (.inl f1))) : Nat × va_E)]) (post := [((o2, .inl (G 4, 1, .inr (.inr (.inr (.inl f2))))) : Nat × va_E)]) hP) (jMidD (pre := wM a G M) (mid := wTS B G S ++ [((o1, .inl (G 3, 1, .inr (.inl f1))) : Nat × va_E)]) (post := [((o2, .inl (G 4, 1, .inr (.inr (.inr (.inl f2))))) : Nat × va_E)]) hD) hA hS hl (As := [.ref (B 9 0), .int 1, .ref o1]) (rest := []) rfl (Nat.le_of_ble_eq_true rfl) (fun H1 locs hQ hz hkp hS => ?_)
    have hP := jMidJoin (pre := wM a G M) (mid := wTS B G S ++ [((o1, .inl (G 3, 1, .inr (.inl f1))) : Nat × va_E)]) (mid' := wTS B G rc.2.2 ++ [((o1, .inl (G 3, 1, .inr (.inl (hO rc.1 f1 rc.2.1)))) : Nat × va_E)]) (post := [((o2, .inl (G 4, 1, .inr (.inr (.inr (.inl f2))))) : Nat × va_E)]) hP hD hkp hQ
    have hP : va_P D vwCl (lwW a B G o1 o2 rc.2.2 M (hO rc.1 f1 rc.2.1) f2) H1 := by rw [lwW_1]; exact hP
    have hD : va_D A (lwW a B G o1 o2 rc.2.2 M (hO rc.1 f1 rc.2.1) f2) := lwD hD0
    clear hQ hz hkp
    generalize H1 = H at hP hS ⊢
    refine W.widen (k := cells + 3) (n := slots + 18) (show cells + 1 ≤ cells + 3 by omega) (show slots + 6 ≤ slots + 18 by omega) ?_
    refine lv_istore (lv' := [(6, .int (hk_reason rc.1)), (5, .int (nI i)), (4, .ref o2), (3, .ref o1), (2, .ref (a 0)), (1, .ref (B 9 0)), (0, .ref b)]) hx hb dL_law_2047 hl (by decide) rfl (fun ls hl => ?_)
    refine lv_aload_n hx hb dL_law_2049 rfl (lv_at hl 4 rfl) ?_
    refine lv_aload_n hx hb dL_law_2050 rfl (lv_at hl 6 rfl) ?_
    refine lv_iload hx hb dL_law_2051 (lv_at hl 1 rfl) ?_
    refine lv_iconst (v := 1) hx hb dL_law_2053 (by decide) ?_
    refine lv_iadd hx hb dL_law_2054 ?_
    refine va_sld hx hb hX hbl hbA hS h1 dL_law_2055 ?_
    refine lv_if_eq (tgt := 2063) hx hb dL_law_2056 (by decide) (fun h => absurd h cz) (fun _ => ?_)
    refine lv_iconst (v := 1) hx hb dL_law_2059 (by decide) ?_
    refine lv_goto (tgt := 2064) hx hb dL_law_2060 (by decide) ?_
    refine jVmI C dL_law_2064 (k_X9_reason l D G a N2 M 1 rm e2) jy_X9_reason jq_43_3 jq_43_4 jq_43_5 ⟨rfl, rfl, Nat.le_of_ble_eq_true rfl, Nat.le_of_ble_eq_true rfl⟩ ⟨by show cells + 3 ≤ 603072; omega, by show slots + 18 ≤ 7174250; omega⟩ (jMidP (pre := []) (mid := wM a G M) (post := wTS B G rc.2.2 ++ ([((o1, .inl (G 3, 1, .inr (.inl (hO rc.1 f1 rc.2.1)))) : Nat × va_E)] ++ [((o2, .inl (G 4, 1, .inr (.inr (.inr (.inl f2))))) : Nat × va_E)])) hP) (jMidD (pre := []) (mid := wM a G M) (post := wTS B G rc.2.2 ++ ([((o1, .inl (G 3, 1, .inr (.inl (hO rc.1 f1 rc.2.1)))) : Nat × va_E)] ++ [((o2, .inl (G 4, 1, .inr (.inr (.inr (.inl f2))))) : Nat × va_E)])) hD) hA hS (ci := 11) (iw := 0) rfl rfl rfl hl (As := [.int 1]) (rest := []) rfl (Nat.le_of_ble_eq_true rfl) (fun H1 locs hQ hz hkp hS => ?_)
    have hP : va_P D vwCl (lwW a B G o1 o2 rc.2.2 rm.2 (hO rc.1 f1 rc.2.1) f2) H1 := jMidJoin (pre := []) (mid := wM a G M) (mid' := wM a G rm.2) (post := wTS B G rc.2.2 ++ ([((o1, .inl (G 3, 1, .inr (.inl (hO rc.1 f1 rc.2.1)))) : Nat × va_E)] ++ [((o2, .inl (G 4, 1, .inr (.inr (.inr (.inl f2))))) : Nat × va_E)])) hP hD hkp hQ
    have hD : va_D A (lwW a B G o1 o2 rc.2.2 rm.2 (hO rc.1 f1 rc.2.1) f2) := lwD hD0
    clear hQ hz hkp
    generalize H1 = H at hP hS ⊢
    refine lv_istore (lv' := [(7, .int rm.1), (6, .int (hk_reason rc.1)), (5, .int (nI i)), (4, .ref o2), (3, .ref o1), (2, .ref (a 0)), (1, .ref (B 9 0)), (0, .ref b)]) hx hb dL_law_2067 hl (by decide) rfl (fun ls hl => ?_)
    refine lv_aload_n hx hb dL_law_2069 rfl (lv_at hl 5 rfl) ?_
    refine jVpI C dL_law_2070 (k_X9_thrown l D G a N2 rm.2 (rm.2 0 0) rfl) jy_X9_thrown jq_15_8 jq_15_9 jq_15_10 ⟨rfl, rfl, Nat.le_of_ble_eq_true rfl, Nat.le_of_ble_eq_true rfl⟩ ⟨by show cells + 3 ≤ 603072; omega, by show slots + 18 ≤ 7174250; omega⟩ (jMidP (pre := []) (mid := wM a G rm.2) (post := wTS B G rc.2.2 ++ ([((o1, .inl (G 3, 1, .inr (.inl (hO rc.1 f1 rc.2.1)))) : Nat × va_E)] ++ [((o2, .inl (G 4, 1, .inr (.inr (.inr (.inl f2))))) : Nat × va_E)])) hP) (ci := 11) (iw := 0) rfl rfl rfl hl (As := []) (rest := []) rfl (Nat.le_of_ble_eq_true rfl) ?_
    refine lv_iload hx hb dL_law_2073 (lv_at hl 1 rfl) ?_
    refine lv_icmp_eq (tgt := 2080) hx hb dL_law_2075 (by decide) (fun _ => ?_) (fun h => absurd ht h)
    refine lv_iload hx hb dL_law_2080 (lv_at hl 1 rfl) ?_
    refine lv_if_ne (tgt := 2097) hx hb dL_law_2082 (by decide) (fun _ => ?_) (fun hz0 => ?_)
    · refine lv_goto (tgt := 2403) hx hb dL_law_2097 (by decide) ?_
      exact kk rc.2.2 rm.2 (hO rc.1 f1 rc.2.1) f2 ls H locs hR2 hP hD hS (lv_sub hl [2, 3, 4, 5, 6, 7] rfl)
    · have hk0 : rc.1 = 0 := by
        rcases hk with hk | hk
        · exact hk
        · rw [hk] at hz0; exact absurd hz0 (by decide)
      refine lv_aload_n hx hb dL_law_2085 rfl (lv_at hl 4 rfl) ?_
      refine lv_iconst (v := 0) hx hb dL_law_2086 (by decide) ?_
      rw [lwW_1] at hP
      refine va_lald (n := 1) hx hb hK hP ((wM a G rm.2).length + (wTS B G rc.2.2).length) 3 (jAt1 _ _ _ _) rfl (inb_of (by decide)) dL_law_2087 ?_
      rw [← lwW_1] at hP
      refine lv_iload hx hb dL_law_2088 (lv_at hl 0 rfl) ?_
      refine lv_i2l hx hb dL_law_2090 rfl ?_
      refine W.lcmp hx hb dL_law_2091 ?_
      have hzz : lg_cmp ((hO rc.1 f1 rc.2.1) (0 : Int32).toNatClampNeg) rm.1.toInt64 = 0 := lgc (by unfold hO; rw [if_pos hk0, hv hk0]; rfl)
      refine lv_if_eq (tgt := 2097) hx hb dL_law_2092 (by decide) (fun _ => ?_) (fun h => absurd hzz h)
      refine lv_goto (tgt := 2403) hx hb dL_law_2097 (by decide) ?_
      exact kk rc.2.2 rm.2 (hO rc.1 f1 rc.2.1) f2 ls H locs hR2 hP hD hS (lv_sub hl [2, 3, 4, 5, 6, 7] rfl)
def jE_account (Rl : (Nat → Nat → Nat → Int32) → (Nat → Nat → Int32) → Prop) : Prop := ∀ (S : Nat → Nat → Nat → Int32) (M : Nat → Nat → Int32) (v1 : Int32), Rl S M → ∃ (N1 : Nat) (rc : _) (N2 : Nat) (rm : _), F_X8_account N1 S v1 = some rc ∧ F_X9_account N2 M v1 = some rm ∧ (rc.1 = 0 ∨ rc.1 = 2) ∧ rm.2 0 0 = hk_account rc.1 ∧ (rc.1 = 0 → rc.2.1 = rm.1) ∧ Rl rc.2.2 rm.2
theorem hy_account : hY yL_account cL_account 4 [(0, 9, 12, 15)] 3 := ⟨by decide +kernel, jq_43_9, jq_6_7⟩
set_option maxHeartbeats 4000000 in
set_option maxRecDepth 100000 in
theorem lc_account {p : Program} {l : Launch} {e : Env} {s : State} {m : MethodId} {args : Array Value} {below : List Frame} {meth : Method} {c : Code} {Q : State → Prop} {D : va_G} {G : Nat → ClassId} {A : Nat → Prop} {ks va : Nat → Nat} {b L i : Nat} {xs : Nat → Int32} {a : Nat → Nat} {B : Nat → Nat → Nat} {o1 o2 : Nat} {Rl : (Nat → Nat → Nat → Int32) → (Nat → Nat → Int32) → Prop} {ret : Option FieldType}
    (C : Cx p s m args meth c cL_law 9 RL ret D G) (hl0 : l.stackTraces = false) (hZ : jZ ks va A s s.heap) (hC : jC s) (hA : ∀ q : Nat, s.heap.size ≤ q → A q) (hX : va_X b L xs s s.heap) (hbl : b < s.heap.size) (hbA : ¬ A b) (h0 : vp_in (nI i) L) (h1 : vp_in (nI i + 1) L) (h2 : vp_in (nI i + 2) L) (h3 : vp_in (nI i + 3) L) (h4 : vp_in (nI i + 4) L) (hE : jE_account Rl) : ∀ (S : Nat → Nat → Nat → Int32) (M : Nat → Nat → Int32) (f1 : Nat → Int64) (f2 : Nat → UInt64) (ls : Array Slot) (H : Heap) (locs : List Loc) (cells slots : Nat), cells + 3 ≤ 603072 → slots + 18 ≤ 7174250 → Rl S M → va_P D vwCl (lwW a B G o1 o2 S M f1 f2) H → va_D A (lwW a B G o1 o2 S M f1 f2) → va_S A s.heap H locs → lv_has ls 9 [(5, .int (nI i)), (4, .ref o2), (3, .ref o1), (2, .ref (a 0)), (1, .ref (B 9 0)), (0, .ref b)] → (∀ (S : Nat → Nat → Nat → Int32) (M : Nat → Nat → Int32) (f1 : Nat → Int64) (f2 : Nat → UInt64) (ls : Array Slot) (H : Heap) (locs : List Loc), Rl S M → va_P D vwCl (lwW a B G o1 o2 S M f1 f2) H → va_D A (lwW a B G o1 o2 S M f1 f2) → va_S A s.heap H locs → lv_has ls 9 [(5, .int (nI i)), (4, .ref o2), (3, .ref o1), (2, .ref (a 0)), (1, .ref (B 9 0)), (0, .ref b)] → W p l e room_1 s m args below meth c H locs (cells + 3) (slots + 18) Q (F0 m 2403 ls [])) → W p l e room_1 s m args below meth c H locs cells slots Q (F0 m 2100 ls []) := by
  intro S M f1 f2 ls H locs cells slots hcc hcs hR hP hD hS hl kk
  have hD0 := hD
  obtain ⟨hx, hb, hr, hml, hts, hown, hlocks, hK0⟩ := id C
  have hK := hK0.1
  refine lv_aload_n hx hb dL_law_2100 rfl (lv_at hl 4 rfl) ?_
  refine lv_aload_n hx hb dL_law_2101 rfl (lv_at hl 5 rfl) ?_
  refine lv_iload hx hb dL_law_2102 (lv_at hl 0 rfl) ?_
  refine lv_iconst (v := 1) hx hb dL_law_2104 (by decide) ?_
  refine lv_iadd hx hb dL_law_2105 ?_
  refine va_sld hx hb hX hbl hbA hS h1 dL_law_2106 ?_
  refine lv_aload_n hx hb dL_law_2107 rfl (lv_at hl 2 rfl) ?_
  obtain ⟨N1, rc, N2, rm, e1, e2, hk, ht, hv, hR2⟩ := hE S M (xs (nI i + 1).toNatClampNeg) hR
  rw [lwW_1] at hP hD
  refine jSh C dL_law_2108 (kh_account l hl0 D G B ks va o1 f1 N1 S (xs (nI i + 1).toNatClampNeg) rc e1 hk) hy_account jq_43_7 jq_43_8 ⟨Nat.le_of_ble_eq_true rfl, Nat.le_of_ble_eq_true rfl⟩ ⟨by show cells + 1 ≤ 603072; omega, by show slots + 6 ≤ 7174250; omega⟩ hZ hC (jMidP (pre := wM a G M) (mid := wTS B G S ++ [((o1, .inl (G 3, 1, .inr (.inl f1))) : Nat × va_E)]) (post := [((o2, .inl (G 4, 1, .inr (.inr (.inr (.inl f2))))) : Nat × va_E)]) hP) (jMidD (pre := wM a G M) (mid := wTS B G S ++ [((o1, .inl (G 3, 1, .inr (.inl f1))) : Nat × va_E)]) (post := [((o2, .inl (G 4, 1, .inr (.inr (.inr (.inl f2))))) : Nat × va_E)]) hD) hA hS hl (As := [.ref (B 9 0), .int (xs (nI i + 1).toNatClampNeg), .ref o1]) (rest := []) rfl (Nat.le_of_ble_eq_true rfl) (fun H1 locs hQ hz hkp hS => ?_)
  have hP := jMidJoin (pre := wM a G M) (mid := wTS B G S ++ [((o1, .inl (G 3, 1, .inr (.inl f1))) : Nat × va_E)]) (mid' := wTS B G rc.2.2 ++ [((o1, .inl (G 3, 1, .inr (.inl (hO rc.1 f1 rc.2.1)))) : Nat × va_E)]) (post := [((o2, .inl (G 4, 1, .inr (.inr (.inr (.inl f2))))) : Nat × va_E)]) hP hD hkp hQ
  have hP : va_P D vwCl (lwW a B G o1 o2 rc.2.2 M (hO rc.1 f1 rc.2.1) f2) H1 := by rw [lwW_1]; exact hP
  have hD : va_D A (lwW a B G o1 o2 rc.2.2 M (hO rc.1 f1 rc.2.1) f2) := lwD hD0
  clear hQ hz hkp
  generalize H1 = H at hP hS ⊢
  refine W.widen (k := cells + 3) (n := slots + 18) (show cells + 1 ≤ cells + 3 by omega) (show slots + 6 ≤ slots + 18 by omega) ?_
  refine lv_istore (lv' := [(6, .int (hk_account rc.1)), (5, .int (nI i)), (4, .ref o2), (3, .ref o1), (2, .ref (a 0)), (1, .ref (B 9 0)), (0, .ref b)]) hx hb dL_law_2111 hl (by decide) rfl (fun ls hl => ?_)
  refine lv_aload_n hx hb dL_law_2113 rfl (lv_at hl 4 rfl) ?_
  refine lv_aload_n hx hb dL_law_2114 rfl (lv_at hl 6 rfl) ?_
  refine lv_iload hx hb dL_law_2115 (lv_at hl 1 rfl) ?_
  refine lv_iconst (v := 1) hx hb dL_law_2117 (by decide) ?_
  refine lv_iadd hx hb dL_law_2118 ?_
  refine va_sld hx hb hX hbl hbA hS h1 dL_law_2119 ?_
  refine jVmI C dL_law_2120 (k_X9_account l D G a N2 M (xs (nI i + 1).toNatClampNeg) rm e2) jy_X9_account jq_43_23 jq_44_0 jq_44_1 ⟨rfl, rfl, Nat.le_of_ble_eq_true rfl, Nat.le_of_ble_eq_true rfl⟩ ⟨by show cells + 3 ≤ 603072; omega, by show slots + 18 ≤ 7174250; omega⟩ (jMidP (pre := []) (mid := wM a G M) (post := wTS B G rc.2.2 ++ ([((o1, .inl (G 3, 1, .inr (.inl (hO rc.1 f1 rc.2.1)))) : Nat × va_E)] ++ [((o2, .inl (G 4, 1, .inr (.inr (.inr (.inl f2))))) : Nat × va_E)])) hP) (jMidD (pre := []) (mid := wM a G M) (post := wTS B G rc.2.2 ++ ([((o1, .inl (G 3, 1, .inr (.inl (hO rc.1 f1 rc.2.1)))) : Nat × va_E)] ++ [((o2, .inl (G 4, 1, .inr (.inr (.inr (.inl f2))))) : Nat × va_E)])) hD) hA hS (ci := 11) (iw := 0) rfl rfl rfl hl (As := [.int (xs (nI i + 1).toNatClampNeg)]) (rest := []) rfl (Nat.le_of_ble_eq_true rfl) (fun H1 locs hQ hz hkp hS => ?_)
  have hP : va_P D vwCl (lwW a B G o1 o2 rc.2.2 rm.2 (hO rc.1 f1 rc.2.1) f2) H1 := jMidJoin (pre := []) (mid := wM a G M) (mid' := wM a G rm.2) (post := wTS B G rc.2.2 ++ ([((o1, .inl (G 3, 1, .inr (.inl (hO rc.1 f1 rc.2.1)))) : Nat × va_E)] ++ [((o2, .inl (G 4, 1, .inr (.inr (.inr (.inl f2))))) : Nat × va_E)])) hP hD hkp hQ
  have hD : va_D A (lwW a B G o1 o2 rc.2.2 rm.2 (hO rc.1 f1 rc.2.1) f2) := lwD hD0
  clear hQ hz hkp
  generalize H1 = H at hP hS ⊢
  refine lv_istore (lv' := [(7, .int rm.1), (6, .int (hk_account rc.1)), (5, .int (nI i)), (4, .ref o2), (3, .ref o1), (2, .ref (a 0)), (1, .ref (B 9 0)), (0, .ref b)]) hx hb dL_law_2123 hl (by decide) rfl (fun ls hl => ?_)
  refine lv_aload_n hx hb dL_law_2125 rfl (lv_at hl 5 rfl) ?_
  refine jVpI C dL_law_2126 (k_X9_thrown l D G a N2 rm.2 (rm.2 0 0) rfl) jy_X9_thrown jq_15_8 jq_15_9 jq_15_10 ⟨rfl, rfl, Nat.le_of_ble_eq_true rfl, Nat.le_of_ble_eq_true rfl⟩ ⟨by show cells + 3 ≤ 603072; omega, by show slots + 18 ≤ 7174250; omega⟩ (jMidP (pre := []) (mid := wM a G rm.2) (post := wTS B G rc.2.2 ++ ([((o1, .inl (G 3, 1, .inr (.inl (hO rc.1 f1 rc.2.1)))) : Nat × va_E)] ++ [((o2, .inl (G 4, 1, .inr (.inr (.inr (.inl f2))))) : Nat × va_E)])) hP) (ci := 11) (iw := 0) rfl rfl rfl hl (As := []) (rest := []) rfl (Nat.le_of_ble_eq_true rfl) ?_
  refine lv_iload hx hb dL_law_2129 (lv_at hl 1 rfl) ?_
  refine lv_icmp_eq (tgt := 2136) hx hb dL_law_2131 (by decide) (fun _ => ?_) (fun h => absurd ht h)
  refine lv_iload hx hb dL_law_2136 (lv_at hl 1 rfl) ?_
  refine lv_if_ne (tgt := 2153) hx hb dL_law_2138 (by decide) (fun _ => ?_) (fun hz0 => ?_)
  · refine lv_goto (tgt := 2403) hx hb dL_law_2153 (by decide) ?_
    exact kk rc.2.2 rm.2 (hO rc.1 f1 rc.2.1) f2 ls H locs hR2 hP hD hS (lv_sub hl [2, 3, 4, 5, 6, 7] rfl)
  · have hk0 : rc.1 = 0 := by
      rcases hk with hk | hk
      · exact hk
      · rw [hk] at hz0; exact absurd hz0 (by decide)
    refine lv_aload_n hx hb dL_law_2141 rfl (lv_at hl 4 rfl) ?_
    refine lv_iconst (v := 0) hx hb dL_law_2142 (by decide) ?_
    rw [lwW_1] at hP
    refine va_lald (n := 1) hx hb hK hP ((wM a G rm.2).length + (wTS B G rc.2.2).length) 3 (jAt1 _ _ _ _) rfl (inb_of (by decide)) dL_law_2143 ?_
    rw [← lwW_1] at hP
    refine lv_iload hx hb dL_law_2144 (lv_at hl 0 rfl) ?_
    refine lv_i2l hx hb dL_law_2146 rfl ?_
    refine W.lcmp hx hb dL_law_2147 ?_
    have hzz : lg_cmp ((hO rc.1 f1 rc.2.1) (0 : Int32).toNatClampNeg) rm.1.toInt64 = 0 := lgc (by unfold hO; rw [if_pos hk0, hv hk0]; rfl)
    refine lv_if_eq (tgt := 2153) hx hb dL_law_2148 (by decide) (fun _ => ?_) (fun h => absurd hzz h)
    refine lv_goto (tgt := 2403) hx hb dL_law_2153 (by decide) ?_
    exact kk rc.2.2 rm.2 (hO rc.1 f1 rc.2.1) f2 ls H locs hR2 hP hD hS (lv_sub hl [2, 3, 4, 5, 6, 7] rfl)
def jE_append (Rl : (Nat → Nat → Nat → Int32) → (Nat → Nat → Int32) → Prop) : Prop := ∀ (S : Nat → Nat → Nat → Int32) (M : Nat → Nat → Int32) (v1 : Int32), Rl S M → ∃ (N1 : Nat) (rc : _) (N2 : Nat) (rm : _), F_X8_append N1 S v1 = some rc ∧ F_X9_append N2 M v1 = some rm ∧ (rc.1 = 0 ∨ rc.1 = 2 ∨ rc.1 = 3) ∧ rm.2 0 0 = hk_append rc.1 ∧ (rc.1 = 0 → rc.2.1 = rm.1) ∧ Rl rc.2.2 rm.2
theorem hy_append : hY yL_append cL_append 4 [(0, 9, 12, 15), (0, 9, 15, 30)] 3 := ⟨by decide +kernel, jq_44_6, jq_6_7⟩
set_option maxHeartbeats 4000000 in
set_option maxRecDepth 100000 in
theorem lc_append {p : Program} {l : Launch} {e : Env} {s : State} {m : MethodId} {args : Array Value} {below : List Frame} {meth : Method} {c : Code} {Q : State → Prop} {D : va_G} {G : Nat → ClassId} {A : Nat → Prop} {ks va : Nat → Nat} {b L i : Nat} {xs : Nat → Int32} {a : Nat → Nat} {B : Nat → Nat → Nat} {o1 o2 : Nat} {Rl : (Nat → Nat → Nat → Int32) → (Nat → Nat → Int32) → Prop} {ret : Option FieldType}
    (C : Cx p s m args meth c cL_law 9 RL ret D G) (hl0 : l.stackTraces = false) (hZ : jZ ks va A s s.heap) (hC : jC s) (hA : ∀ q : Nat, s.heap.size ≤ q → A q) (hX : va_X b L xs s s.heap) (hbl : b < s.heap.size) (hbA : ¬ A b) (h0 : vp_in (nI i) L) (h1 : vp_in (nI i + 1) L) (h2 : vp_in (nI i + 2) L) (h3 : vp_in (nI i + 3) L) (h4 : vp_in (nI i + 4) L) (hE : jE_append Rl) : ∀ (S : Nat → Nat → Nat → Int32) (M : Nat → Nat → Int32) (f1 : Nat → Int64) (f2 : Nat → UInt64) (ls : Array Slot) (H : Heap) (locs : List Loc) (cells slots : Nat), cells + 3 ≤ 603072 → slots + 18 ≤ 7174250 → Rl S M → va_P D vwCl (lwW a B G o1 o2 S M f1 f2) H → va_D A (lwW a B G o1 o2 S M f1 f2) → va_S A s.heap H locs → lv_has ls 9 [(5, .int (nI i)), (4, .ref o2), (3, .ref o1), (2, .ref (a 0)), (1, .ref (B 9 0)), (0, .ref b)] → (∀ (S : Nat → Nat → Nat → Int32) (M : Nat → Nat → Int32) (f1 : Nat → Int64) (f2 : Nat → UInt64) (ls : Array Slot) (H : Heap) (locs : List Loc), Rl S M → va_P D vwCl (lwW a B G o1 o2 S M f1 f2) H → va_D A (lwW a B G o1 o2 S M f1 f2) → va_S A s.heap H locs → lv_has ls 9 [(5, .int (nI i)), (4, .ref o2), (3, .ref o1), (2, .ref (a 0)), (1, .ref (B 9 0)), (0, .ref b)] → W p l e room_1 s m args below meth c H locs (cells + 3) (slots + 18) Q (F0 m 2403 ls [])) → W p l e room_1 s m args below meth c H locs cells slots Q (F0 m 2156 ls []) := by
  intro S M f1 f2 ls H locs cells slots hcc hcs hR hP hD hS hl kk
  have hD0 := hD
  obtain ⟨hx, hb, hr, hml, hts, hown, hlocks, hK0⟩ := id C
  have hK := hK0.1
  refine lv_aload_n hx hb dL_law_2156 rfl (lv_at hl 4 rfl) ?_
  refine lv_aload_n hx hb dL_law_2157 rfl (lv_at hl 5 rfl) ?_
  refine lv_iload hx hb dL_law_2158 (lv_at hl 0 rfl) ?_
  refine lv_iconst (v := 1) hx hb dL_law_2160 (by decide) ?_
  refine lv_iadd hx hb dL_law_2161 ?_
  refine va_sld hx hb hX hbl hbA hS h1 dL_law_2162 ?_
  refine lv_i2c hx hb dL_law_2163 rfl ?_
  refine lv_aload_n hx hb dL_law_2164 rfl (lv_at hl 2 rfl) ?_
  obtain ⟨N1, rc, N2, rm, e1, e2, hk, ht, hv, hR2⟩ := hE S M (((xs (nI i + 1).toNatClampNeg).toUInt32 % 65536).toInt32) hR
  rw [lwW_1] at hP hD
  refine jSh C dL_law_2165 (kh_append l hl0 D G B ks va o1 f1 N1 S (((xs (nI i + 1).toNatClampNeg).toUInt32 % 65536).toInt32) rc e1 hk) hy_append jq_44_4 jq_44_5 ⟨Nat.le_of_ble_eq_true rfl, Nat.le_of_ble_eq_true rfl⟩ ⟨by show cells + 2 ≤ 603072; omega, by show slots + 12 ≤ 7174250; omega⟩ hZ hC (jMidP (pre := wM a G M) (mid := wTS B G S ++ [((o1, .inl (G 3, 1, .inr (.inl f1))) : Nat × va_E)]) (post := [((o2, .inl (G 4, 1, .inr (.inr (.inr (.inl f2))))) : Nat × va_E)]) hP) (jMidD (pre := wM a G M) (mid := wTS B G S ++ [((o1, .inl (G 3, 1, .inr (.inl f1))) : Nat × va_E)]) (post := [((o2, .inl (G 4, 1, .inr (.inr (.inr (.inl f2))))) : Nat × va_E)]) hD) hA hS hl (As := [.ref (B 9 0), .int ((xs (nI i + 1).toNatClampNeg).toUInt32 % 65536).toInt32, .ref o1]) (rest := []) rfl (Nat.le_of_ble_eq_true rfl) (fun H1 locs hQ hz hkp hS => ?_)
  have hP := jMidJoin (pre := wM a G M) (mid := wTS B G S ++ [((o1, .inl (G 3, 1, .inr (.inl f1))) : Nat × va_E)]) (mid' := wTS B G rc.2.2 ++ [((o1, .inl (G 3, 1, .inr (.inl (hO rc.1 f1 rc.2.1)))) : Nat × va_E)]) (post := [((o2, .inl (G 4, 1, .inr (.inr (.inr (.inl f2))))) : Nat × va_E)]) hP hD hkp hQ
  have hP : va_P D vwCl (lwW a B G o1 o2 rc.2.2 M (hO rc.1 f1 rc.2.1) f2) H1 := by rw [lwW_1]; exact hP
  have hD : va_D A (lwW a B G o1 o2 rc.2.2 M (hO rc.1 f1 rc.2.1) f2) := lwD hD0
  clear hQ hz hkp
  generalize H1 = H at hP hS ⊢
  refine W.widen (k := cells + 3) (n := slots + 18) (show cells + 2 ≤ cells + 3 by omega) (show slots + 12 ≤ slots + 18 by omega) ?_
  refine lv_istore (lv' := [(6, .int (hk_append rc.1)), (5, .int (nI i)), (4, .ref o2), (3, .ref o1), (2, .ref (a 0)), (1, .ref (B 9 0)), (0, .ref b)]) hx hb dL_law_2168 hl (by decide) rfl (fun ls hl => ?_)
  refine lv_aload_n hx hb dL_law_2170 rfl (lv_at hl 4 rfl) ?_
  refine lv_aload_n hx hb dL_law_2171 rfl (lv_at hl 6 rfl) ?_
  refine lv_iload hx hb dL_law_2172 (lv_at hl 1 rfl) ?_
  refine lv_iconst (v := 1) hx hb dL_law_2174 (by decide) ?_
  refine lv_iadd hx hb dL_law_2175 ?_
  refine va_sld hx hb hX hbl hbA hS h1 dL_law_2176 ?_
  refine lv_i2c hx hb dL_law_2177 rfl ?_
  refine jVmI C dL_law_2178 (k_X9_append l D G a N2 M (((xs (nI i + 1).toNatClampNeg).toUInt32 % 65536).toInt32) rm e2) jy_X9_append jq_44_16 jq_44_17 jq_44_18 ⟨rfl, rfl, Nat.le_of_ble_eq_true rfl, Nat.le_of_ble_eq_true rfl⟩ ⟨by show cells + 3 ≤ 603072; omega, by show slots + 18 ≤ 7174250; omega⟩ (jMidP (pre := []) (mid := wM a G M) (post := wTS B G rc.2.2 ++ ([((o1, .inl (G 3, 1, .inr (.inl (hO rc.1 f1 rc.2.1)))) : Nat × va_E)] ++ [((o2, .inl (G 4, 1, .inr (.inr (.inr (.inl f2))))) : Nat × va_E)])) hP) (jMidD (pre := []) (mid := wM a G M) (post := wTS B G rc.2.2 ++ ([((o1, .inl (G 3, 1, .inr (.inl (hO rc.1 f1 rc.2.1)))) : Nat × va_E)] ++ [((o2, .inl (G 4, 1, .inr (.inr (.inr (.inl f2))))) : Nat × va_E)])) hD) hA hS (ci := 11) (iw := 0) rfl rfl rfl hl (As := [.int ((xs (nI i + 1).toNatClampNeg).toUInt32 % 65536).toInt32]) (rest := []) rfl (Nat.le_of_ble_eq_true rfl) (fun H1 locs hQ hz hkp hS => ?_)
  have hP : va_P D vwCl (lwW a B G o1 o2 rc.2.2 rm.2 (hO rc.1 f1 rc.2.1) f2) H1 := jMidJoin (pre := []) (mid := wM a G M) (mid' := wM a G rm.2) (post := wTS B G rc.2.2 ++ ([((o1, .inl (G 3, 1, .inr (.inl (hO rc.1 f1 rc.2.1)))) : Nat × va_E)] ++ [((o2, .inl (G 4, 1, .inr (.inr (.inr (.inl f2))))) : Nat × va_E)])) hP hD hkp hQ
  have hD : va_D A (lwW a B G o1 o2 rc.2.2 rm.2 (hO rc.1 f1 rc.2.1) f2) := lwD hD0
  clear hQ hz hkp
  generalize H1 = H at hP hS ⊢
  refine lv_istore (lv' := [(7, .int rm.1), (6, .int (hk_append rc.1)), (5, .int (nI i)), (4, .ref o2), (3, .ref o1), (2, .ref (a 0)), (1, .ref (B 9 0)), (0, .ref b)]) hx hb dL_law_2181 hl (by decide) rfl (fun ls hl => ?_)
  refine lv_aload_n hx hb dL_law_2183 rfl (lv_at hl 5 rfl) ?_
  refine jVpI C dL_law_2184 (k_X9_thrown l D G a N2 rm.2 (rm.2 0 0) rfl) jy_X9_thrown jq_15_8 jq_15_9 jq_15_10 ⟨rfl, rfl, Nat.le_of_ble_eq_true rfl, Nat.le_of_ble_eq_true rfl⟩ ⟨by show cells + 3 ≤ 603072; omega, by show slots + 18 ≤ 7174250; omega⟩ (jMidP (pre := []) (mid := wM a G rm.2) (post := wTS B G rc.2.2 ++ ([((o1, .inl (G 3, 1, .inr (.inl (hO rc.1 f1 rc.2.1)))) : Nat × va_E)] ++ [((o2, .inl (G 4, 1, .inr (.inr (.inr (.inl f2))))) : Nat × va_E)])) hP) (ci := 11) (iw := 0) rfl rfl rfl hl (As := []) (rest := []) rfl (Nat.le_of_ble_eq_true rfl) ?_
  refine lv_iload hx hb dL_law_2187 (lv_at hl 1 rfl) ?_
  refine lv_icmp_eq (tgt := 2194) hx hb dL_law_2189 (by decide) (fun _ => ?_) (fun h => absurd ht h)
  refine lv_iload hx hb dL_law_2194 (lv_at hl 1 rfl) ?_
  refine lv_if_ne (tgt := 2211) hx hb dL_law_2196 (by decide) (fun _ => ?_) (fun hz0 => ?_)
  · refine lv_goto (tgt := 2403) hx hb dL_law_2211 (by decide) ?_
    exact kk rc.2.2 rm.2 (hO rc.1 f1 rc.2.1) f2 ls H locs hR2 hP hD hS (lv_sub hl [2, 3, 4, 5, 6, 7] rfl)
  · have hk0 : rc.1 = 0 := by
      rcases hk with hk | hk | hk
      · exact hk
      · rw [hk] at hz0; exact absurd hz0 (by decide)
      · rw [hk] at hz0; exact absurd hz0 (by decide)
    refine lv_aload_n hx hb dL_law_2199 rfl (lv_at hl 4 rfl) ?_
    refine lv_iconst (v := 0) hx hb dL_law_2200 (by decide) ?_
    rw [lwW_1] at hP
    refine va_lald (n := 1) hx hb hK hP ((wM a G rm.2).length + (wTS B G rc.2.2).length) 3 (jAt1 _ _ _ _) rfl (inb_of (by decide)) dL_law_2201 ?_
    rw [← lwW_1] at hP
    refine lv_iload hx hb dL_law_2202 (lv_at hl 0 rfl) ?_
    refine lv_i2l hx hb dL_law_2204 rfl ?_
    refine W.lcmp hx hb dL_law_2205 ?_
    have hzz : lg_cmp ((hO rc.1 f1 rc.2.1) (0 : Int32).toNatClampNeg) rm.1.toInt64 = 0 := lgc (by unfold hO; rw [if_pos hk0, hv hk0]; rfl)
    refine lv_if_eq (tgt := 2211) hx hb dL_law_2206 (by decide) (fun _ => ?_) (fun h => absurd hzz h)
    refine lv_goto (tgt := 2403) hx hb dL_law_2211 (by decide) ?_
    exact kk rc.2.2 rm.2 (hO rc.1 f1 rc.2.1) f2 ls H locs hR2 hP hD hS (lv_sub hl [2, 3, 4, 5, 6, 7] rfl)
def jE_read (Rl : (Nat → Nat → Nat → Int32) → (Nat → Nat → Int32) → Prop) : Prop := ∀ (S : Nat → Nat → Nat → Int32) (M : Nat → Nat → Int32), Rl S M → ∃ (N1 : Nat) (rc : _) (N2 : Nat) (rm : _), F_X8_read N1 S = some rc ∧ F_X9_read N2 M = some rm ∧ (rc.1 = 0 ∨ rc.1 = 2 ∨ rc.1 = 3) ∧ rm.2 0 0 = hk_read rc.1 ∧ (rc.1 = 0 → rc.2.1 = rm.1) ∧ Rl rc.2.2 rm.2
theorem hy_read : hY yL_read cL_read 3 [(0, 8, 11, 15), (0, 8, 14, 30)] 2 := ⟨by decide +kernel, jq_44_22, jq_6_7⟩
set_option maxHeartbeats 4000000 in
set_option maxRecDepth 100000 in
theorem lc_read {p : Program} {l : Launch} {e : Env} {s : State} {m : MethodId} {args : Array Value} {below : List Frame} {meth : Method} {c : Code} {Q : State → Prop} {D : va_G} {G : Nat → ClassId} {A : Nat → Prop} {ks va : Nat → Nat} {b L i : Nat} {xs : Nat → Int32} {a : Nat → Nat} {B : Nat → Nat → Nat} {o1 o2 : Nat} {Rl : (Nat → Nat → Nat → Int32) → (Nat → Nat → Int32) → Prop} {ret : Option FieldType}
    (C : Cx p s m args meth c cL_law 9 RL ret D G) (hl0 : l.stackTraces = false) (hZ : jZ ks va A s s.heap) (hC : jC s) (hA : ∀ q : Nat, s.heap.size ≤ q → A q) (hX : va_X b L xs s s.heap) (hbl : b < s.heap.size) (hbA : ¬ A b) (h0 : vp_in (nI i) L) (h1 : vp_in (nI i + 1) L) (h2 : vp_in (nI i + 2) L) (h3 : vp_in (nI i + 3) L) (h4 : vp_in (nI i + 4) L) (hE : jE_read Rl) : ∀ (S : Nat → Nat → Nat → Int32) (M : Nat → Nat → Int32) (f1 : Nat → Int64) (f2 : Nat → UInt64) (ls : Array Slot) (H : Heap) (locs : List Loc) (cells slots : Nat), cells + 3 ≤ 603072 → slots + 18 ≤ 7174250 → Rl S M → va_P D vwCl (lwW a B G o1 o2 S M f1 f2) H → va_D A (lwW a B G o1 o2 S M f1 f2) → va_S A s.heap H locs → lv_has ls 9 [(5, .int (nI i)), (4, .ref o2), (3, .ref o1), (2, .ref (a 0)), (1, .ref (B 9 0)), (0, .ref b)] → (∀ (S : Nat → Nat → Nat → Int32) (M : Nat → Nat → Int32) (f1 : Nat → Int64) (f2 : Nat → UInt64) (ls : Array Slot) (H : Heap) (locs : List Loc), Rl S M → va_P D vwCl (lwW a B G o1 o2 S M f1 f2) H → va_D A (lwW a B G o1 o2 S M f1 f2) → va_S A s.heap H locs → lv_has ls 9 [(5, .int (nI i)), (4, .ref o2), (3, .ref o1), (2, .ref (a 0)), (1, .ref (B 9 0)), (0, .ref b)] → W p l e room_1 s m args below meth c H locs (cells + 3) (slots + 18) Q (F0 m 2403 ls [])) → W p l e room_1 s m args below meth c H locs cells slots Q (F0 m 2214 ls []) := by
  intro S M f1 f2 ls H locs cells slots hcc hcs hR hP hD hS hl kk
  have hD0 := hD
  obtain ⟨hx, hb, hr, hml, hts, hown, hlocks, hK0⟩ := id C
  have hK := hK0.1
  refine lv_aload_n hx hb dL_law_2214 rfl (lv_at hl 4 rfl) ?_
  refine lv_aload_n hx hb dL_law_2215 rfl (lv_at hl 2 rfl) ?_
  obtain ⟨N1, rc, N2, rm, e1, e2, hk, ht, hv, hR2⟩ := hE S M  hR
  rw [lwW_1] at hP hD
  refine jSh C dL_law_2216 (kh_read l hl0 D G B ks va o1 f1 N1 S  rc e1 hk) hy_read jq_44_20 jq_44_21 ⟨Nat.le_of_ble_eq_true rfl, Nat.le_of_ble_eq_true rfl⟩ ⟨by show cells + 1 ≤ 603072; omega, by show slots + 6 ≤ 7174250; omega⟩ hZ hC (jMidP (pre := wM a G M) (mid := wTS B G S ++ [((o1, .inl (G 3, 1, .inr (.inl f1))) : Nat × va_E)]) (post := [((o2, .inl (G 4, 1, .inr (.inr (.inr (.inl f2))))) : Nat × va_E)]) hP) (jMidD (pre := wM a G M) (mid := wTS B G S ++ [((o1, .inl (G 3, 1, .inr (.inl f1))) : Nat × va_E)]) (post := [((o2, .inl (G 4, 1, .inr (.inr (.inr (.inl f2))))) : Nat × va_E)]) hD) hA hS hl (As := [.ref (B 9 0), .ref o1]) (rest := []) rfl (Nat.le_of_ble_eq_true rfl) (fun H1 locs hQ hz hkp hS => ?_)
  have hP := jMidJoin (pre := wM a G M) (mid := wTS B G S ++ [((o1, .inl (G 3, 1, .inr (.inl f1))) : Nat × va_E)]) (mid' := wTS B G rc.2.2 ++ [((o1, .inl (G 3, 1, .inr (.inl (hO rc.1 f1 rc.2.1)))) : Nat × va_E)]) (post := [((o2, .inl (G 4, 1, .inr (.inr (.inr (.inl f2))))) : Nat × va_E)]) hP hD hkp hQ
  have hP : va_P D vwCl (lwW a B G o1 o2 rc.2.2 M (hO rc.1 f1 rc.2.1) f2) H1 := by rw [lwW_1]; exact hP
  have hD : va_D A (lwW a B G o1 o2 rc.2.2 M (hO rc.1 f1 rc.2.1) f2) := lwD hD0
  clear hQ hz hkp
  generalize H1 = H at hP hS ⊢
  refine W.widen (k := cells + 3) (n := slots + 18) (show cells + 1 ≤ cells + 3 by omega) (show slots + 6 ≤ slots + 18 by omega) ?_
  refine lv_istore (lv' := [(6, .int (hk_read rc.1)), (5, .int (nI i)), (4, .ref o2), (3, .ref o1), (2, .ref (a 0)), (1, .ref (B 9 0)), (0, .ref b)]) hx hb dL_law_2219 hl (by decide) rfl (fun ls hl => ?_)
  refine lv_aload_n hx hb dL_law_2221 rfl (lv_at hl 4 rfl) ?_
  refine jVmI C dL_law_2222 (k_X9_read l D G a N2 M  rm e2) jy_X9_read jq_49_14 jq_49_15 jq_49_16 ⟨rfl, rfl, Nat.le_of_ble_eq_true rfl, Nat.le_of_ble_eq_true rfl⟩ ⟨by show cells + 3 ≤ 603072; omega, by show slots + 18 ≤ 7174250; omega⟩ (jMidP (pre := []) (mid := wM a G M) (post := wTS B G rc.2.2 ++ ([((o1, .inl (G 3, 1, .inr (.inl (hO rc.1 f1 rc.2.1)))) : Nat × va_E)] ++ [((o2, .inl (G 4, 1, .inr (.inr (.inr (.inl f2))))) : Nat × va_E)])) hP) (jMidD (pre := []) (mid := wM a G M) (post := wTS B G rc.2.2 ++ ([((o1, .inl (G 3, 1, .inr (.inl (hO rc.1 f1 rc.2.1)))) : Nat × va_E)] ++ [((o2, .inl (G 4, 1, .inr (.inr (.inr (.inl f2))))) : Nat × va_E)])) hD) hA hS (ci := 11) (iw := 0) rfl rfl rfl hl (As := []) (rest := []) rfl (Nat.le_of_ble_eq_true rfl) (fun H1 locs hQ hz hkp hS => ?_)
  have hP : va_P D vwCl (lwW a B G o1 o2 rc.2.2 rm.2 (hO rc.1 f1 rc.2.1) f2) H1 := jMidJoin (pre := []) (mid := wM a G M) (mid' := wM a G rm.2) (post := wTS B G rc.2.2 ++ ([((o1, .inl (G 3, 1, .inr (.inl (hO rc.1 f1 rc.2.1)))) : Nat × va_E)] ++ [((o2, .inl (G 4, 1, .inr (.inr (.inr (.inl f2))))) : Nat × va_E)])) hP hD hkp hQ
  have hD : va_D A (lwW a B G o1 o2 rc.2.2 rm.2 (hO rc.1 f1 rc.2.1) f2) := lwD hD0
  clear hQ hz hkp
  generalize H1 = H at hP hS ⊢
  refine lv_istore (lv' := [(7, .int rm.1), (6, .int (hk_read rc.1)), (5, .int (nI i)), (4, .ref o2), (3, .ref o1), (2, .ref (a 0)), (1, .ref (B 9 0)), (0, .ref b)]) hx hb dL_law_2225 hl (by decide) rfl (fun ls hl => ?_)
  refine lv_aload_n hx hb dL_law_2227 rfl (lv_at hl 5 rfl) ?_
  refine jVpI C dL_law_2228 (k_X9_thrown l D G a N2 rm.2 (rm.2 0 0) rfl) jy_X9_thrown jq_15_8 jq_15_9 jq_15_10 ⟨rfl, rfl, Nat.le_of_ble_eq_true rfl, Nat.le_of_ble_eq_true rfl⟩ ⟨by show cells + 3 ≤ 603072; omega, by show slots + 18 ≤ 7174250; omega⟩ (jMidP (pre := []) (mid := wM a G rm.2) (post := wTS B G rc.2.2 ++ ([((o1, .inl (G 3, 1, .inr (.inl (hO rc.1 f1 rc.2.1)))) : Nat × va_E)] ++ [((o2, .inl (G 4, 1, .inr (.inr (.inr (.inl f2))))) : Nat × va_E)])) hP) (ci := 11) (iw := 0) rfl rfl rfl hl (As := []) (rest := []) rfl (Nat.le_of_ble_eq_true rfl) ?_
  refine lv_iload hx hb dL_law_2231 (lv_at hl 1 rfl) ?_
  refine lv_icmp_eq (tgt := 2238) hx hb dL_law_2233 (by decide) (fun _ => ?_) (fun h => absurd ht h)
  refine lv_iload hx hb dL_law_2238 (lv_at hl 1 rfl) ?_
  refine lv_if_ne (tgt := 2255) hx hb dL_law_2240 (by decide) (fun _ => ?_) (fun hz0 => ?_)
  · refine lv_goto (tgt := 2403) hx hb dL_law_2255 (by decide) ?_
    exact kk rc.2.2 rm.2 (hO rc.1 f1 rc.2.1) f2 ls H locs hR2 hP hD hS (lv_sub hl [2, 3, 4, 5, 6, 7] rfl)
  · have hk0 : rc.1 = 0 := by
      rcases hk with hk | hk | hk
      · exact hk
      · rw [hk] at hz0; exact absurd hz0 (by decide)
      · rw [hk] at hz0; exact absurd hz0 (by decide)
    refine lv_aload_n hx hb dL_law_2243 rfl (lv_at hl 4 rfl) ?_
    refine lv_iconst (v := 0) hx hb dL_law_2244 (by decide) ?_
    rw [lwW_1] at hP
    refine va_lald (n := 1) hx hb hK hP ((wM a G rm.2).length + (wTS B G rc.2.2).length) 3 (jAt1 _ _ _ _) rfl (inb_of (by decide)) dL_law_2245 ?_
    rw [← lwW_1] at hP
    refine lv_iload hx hb dL_law_2246 (lv_at hl 0 rfl) ?_
    refine lv_i2l hx hb dL_law_2248 rfl ?_
    refine W.lcmp hx hb dL_law_2249 ?_
    have hzz : lg_cmp ((hO rc.1 f1 rc.2.1) (0 : Int32).toNatClampNeg) rm.1.toInt64 = 0 := lgc (by unfold hO; rw [if_pos hk0, hv hk0]; rfl)
    refine lv_if_eq (tgt := 2255) hx hb dL_law_2250 (by decide) (fun _ => ?_) (fun h => absurd hzz h)
    refine lv_goto (tgt := 2403) hx hb dL_law_2255 (by decide) ?_
    exact kk rc.2.2 rm.2 (hO rc.1 f1 rc.2.1) f2 ls H locs hR2 hP hD hS (lv_sub hl [2, 3, 4, 5, 6, 7] rfl)
def jE_errorPosition (Rl : (Nat → Nat → Nat → Int32) → (Nat → Nat → Int32) → Prop) : Prop := ∀ (S : Nat → Nat → Nat → Int32) (M : Nat → Nat → Int32), Rl S M → ∃ (N1 : Nat) (rc : _) (N2 : Nat) (rm : _), F_X8_errorPosition N1 S = some rc ∧ F_X9_errorPosition N2 M = some rm ∧ (rc.1 = 0 ∨ rc.1 = 5) ∧ rm.2 0 0 = hk_errorPosition rc.1 ∧ (rc.1 = 0 → rc.2.1 = rm.1) ∧ Rl rc.2.2 rm.2
theorem hy_errorPosition : hY yL_errorPosition cL_errorPosition 3 [(0, 8, 11, 51)] 2 := ⟨by decide +kernel, jq_50_19, jq_6_7⟩
set_option maxHeartbeats 4000000 in
set_option maxRecDepth 100000 in
theorem lc_errorPosition {p : Program} {l : Launch} {e : Env} {s : State} {m : MethodId} {args : Array Value} {below : List Frame} {meth : Method} {c : Code} {Q : State → Prop} {D : va_G} {G : Nat → ClassId} {A : Nat → Prop} {ks va : Nat → Nat} {b L i : Nat} {xs : Nat → Int32} {a : Nat → Nat} {B : Nat → Nat → Nat} {o1 o2 : Nat} {Rl : (Nat → Nat → Nat → Int32) → (Nat → Nat → Int32) → Prop} {ret : Option FieldType}
    (C : Cx p s m args meth c cL_law 9 RL ret D G) (hl0 : l.stackTraces = false) (hZ : jZ ks va A s s.heap) (hC : jC s) (hA : ∀ q : Nat, s.heap.size ≤ q → A q) (hX : va_X b L xs s s.heap) (hbl : b < s.heap.size) (hbA : ¬ A b) (h0 : vp_in (nI i) L) (h1 : vp_in (nI i + 1) L) (h2 : vp_in (nI i + 2) L) (h3 : vp_in (nI i + 3) L) (h4 : vp_in (nI i + 4) L) (hE : jE_errorPosition Rl) : ∀ (S : Nat → Nat → Nat → Int32) (M : Nat → Nat → Int32) (f1 : Nat → Int64) (f2 : Nat → UInt64) (ls : Array Slot) (H : Heap) (locs : List Loc) (cells slots : Nat), cells + 3 ≤ 603072 → slots + 18 ≤ 7174250 → Rl S M → va_P D vwCl (lwW a B G o1 o2 S M f1 f2) H → va_D A (lwW a B G o1 o2 S M f1 f2) → va_S A s.heap H locs → lv_has ls 9 [(5, .int (nI i)), (4, .ref o2), (3, .ref o1), (2, .ref (a 0)), (1, .ref (B 9 0)), (0, .ref b)] → (∀ (S : Nat → Nat → Nat → Int32) (M : Nat → Nat → Int32) (f1 : Nat → Int64) (f2 : Nat → UInt64) (ls : Array Slot) (H : Heap) (locs : List Loc), Rl S M → va_P D vwCl (lwW a B G o1 o2 S M f1 f2) H → va_D A (lwW a B G o1 o2 S M f1 f2) → va_S A s.heap H locs → lv_has ls 9 [(5, .int (nI i)), (4, .ref o2), (3, .ref o1), (2, .ref (a 0)), (1, .ref (B 9 0)), (0, .ref b)] → W p l e room_1 s m args below meth c H locs (cells + 3) (slots + 18) Q (F0 m 2403 ls [])) → W p l e room_1 s m args below meth c H locs cells slots Q (F0 m 2258 ls []) := by
  intro S M f1 f2 ls H locs cells slots hcc hcs hR hP hD hS hl kk
  have hD0 := hD
  obtain ⟨hx, hb, hr, hml, hts, hown, hlocks, hK0⟩ := id C
  have hK := hK0.1
  refine lv_aload_n hx hb dL_law_2258 rfl (lv_at hl 4 rfl) ?_
  refine lv_aload_n hx hb dL_law_2259 rfl (lv_at hl 2 rfl) ?_
  obtain ⟨N1, rc, N2, rm, e1, e2, hk, ht, hv, hR2⟩ := hE S M  hR
  rw [lwW_1] at hP hD
  refine jSh C dL_law_2260 (kh_errorPosition l hl0 D G B ks va o1 f1 N1 S  rc e1 hk) hy_errorPosition jq_50_17 jq_50_18 ⟨Nat.le_of_ble_eq_true rfl, Nat.le_of_ble_eq_true rfl⟩ ⟨by show cells + 1 ≤ 603072; omega, by show slots + 6 ≤ 7174250; omega⟩ hZ hC (jMidP (pre := wM a G M) (mid := wTS B G S ++ [((o1, .inl (G 3, 1, .inr (.inl f1))) : Nat × va_E)]) (post := [((o2, .inl (G 4, 1, .inr (.inr (.inr (.inl f2))))) : Nat × va_E)]) hP) (jMidD (pre := wM a G M) (mid := wTS B G S ++ [((o1, .inl (G 3, 1, .inr (.inl f1))) : Nat × va_E)]) (post := [((o2, .inl (G 4, 1, .inr (.inr (.inr (.inl f2))))) : Nat × va_E)]) hD) hA hS hl (As := [.ref (B 9 0), .ref o1]) (rest := []) rfl (Nat.le_of_ble_eq_true rfl) (fun H1 locs hQ hz hkp hS => ?_)
  have hP := jMidJoin (pre := wM a G M) (mid := wTS B G S ++ [((o1, .inl (G 3, 1, .inr (.inl f1))) : Nat × va_E)]) (mid' := wTS B G rc.2.2 ++ [((o1, .inl (G 3, 1, .inr (.inl (hO rc.1 f1 rc.2.1)))) : Nat × va_E)]) (post := [((o2, .inl (G 4, 1, .inr (.inr (.inr (.inl f2))))) : Nat × va_E)]) hP hD hkp hQ
  have hP : va_P D vwCl (lwW a B G o1 o2 rc.2.2 M (hO rc.1 f1 rc.2.1) f2) H1 := by rw [lwW_1]; exact hP
  have hD : va_D A (lwW a B G o1 o2 rc.2.2 M (hO rc.1 f1 rc.2.1) f2) := lwD hD0
  clear hQ hz hkp
  generalize H1 = H at hP hS ⊢
  refine W.widen (k := cells + 3) (n := slots + 18) (show cells + 1 ≤ cells + 3 by omega) (show slots + 6 ≤ slots + 18 by omega) ?_
  refine lv_istore (lv' := [(6, .int (hk_errorPosition rc.1)), (5, .int (nI i)), (4, .ref o2), (3, .ref o1), (2, .ref (a 0)), (1, .ref (B 9 0)), (0, .ref b)]) hx hb dL_law_2263 hl (by decide) rfl (fun ls hl => ?_)
  refine lv_aload_n hx hb dL_law_2265 rfl (lv_at hl 4 rfl) ?_
  refine jVmI C dL_law_2266 (k_X9_errorPosition l D G a N2 M  rm e2) jy_X9_errorPosition jq_51_0 jq_51_1 jq_51_2 ⟨rfl, rfl, Nat.le_of_ble_eq_true rfl, Nat.le_of_ble_eq_true rfl⟩ ⟨by show cells + 3 ≤ 603072; omega, by show slots + 18 ≤ 7174250; omega⟩ (jMidP (pre := []) (mid := wM a G M) (post := wTS B G rc.2.2 ++ ([((o1, .inl (G 3, 1, .inr (.inl (hO rc.1 f1 rc.2.1)))) : Nat × va_E)] ++ [((o2, .inl (G 4, 1, .inr (.inr (.inr (.inl f2))))) : Nat × va_E)])) hP) (jMidD (pre := []) (mid := wM a G M) (post := wTS B G rc.2.2 ++ ([((o1, .inl (G 3, 1, .inr (.inl (hO rc.1 f1 rc.2.1)))) : Nat × va_E)] ++ [((o2, .inl (G 4, 1, .inr (.inr (.inr (.inl f2))))) : Nat × va_E)])) hD) hA hS (ci := 11) (iw := 0) rfl rfl rfl hl (As := []) (rest := []) rfl (Nat.le_of_ble_eq_true rfl) (fun H1 locs hQ hz hkp hS => ?_)
  have hP : va_P D vwCl (lwW a B G o1 o2 rc.2.2 rm.2 (hO rc.1 f1 rc.2.1) f2) H1 := jMidJoin (pre := []) (mid := wM a G M) (mid' := wM a G rm.2) (post := wTS B G rc.2.2 ++ ([((o1, .inl (G 3, 1, .inr (.inl (hO rc.1 f1 rc.2.1)))) : Nat × va_E)] ++ [((o2, .inl (G 4, 1, .inr (.inr (.inr (.inl f2))))) : Nat × va_E)])) hP hD hkp hQ
  have hD : va_D A (lwW a B G o1 o2 rc.2.2 rm.2 (hO rc.1 f1 rc.2.1) f2) := lwD hD0
  clear hQ hz hkp
  generalize H1 = H at hP hS ⊢
  refine lv_istore (lv' := [(7, .int rm.1), (6, .int (hk_errorPosition rc.1)), (5, .int (nI i)), (4, .ref o2), (3, .ref o1), (2, .ref (a 0)), (1, .ref (B 9 0)), (0, .ref b)]) hx hb dL_law_2269 hl (by decide) rfl (fun ls hl => ?_)
  refine lv_aload_n hx hb dL_law_2271 rfl (lv_at hl 5 rfl) ?_
  refine jVpI C dL_law_2272 (k_X9_thrown l D G a N2 rm.2 (rm.2 0 0) rfl) jy_X9_thrown jq_15_8 jq_15_9 jq_15_10 ⟨rfl, rfl, Nat.le_of_ble_eq_true rfl, Nat.le_of_ble_eq_true rfl⟩ ⟨by show cells + 3 ≤ 603072; omega, by show slots + 18 ≤ 7174250; omega⟩ (jMidP (pre := []) (mid := wM a G rm.2) (post := wTS B G rc.2.2 ++ ([((o1, .inl (G 3, 1, .inr (.inl (hO rc.1 f1 rc.2.1)))) : Nat × va_E)] ++ [((o2, .inl (G 4, 1, .inr (.inr (.inr (.inl f2))))) : Nat × va_E)])) hP) (ci := 11) (iw := 0) rfl rfl rfl hl (As := []) (rest := []) rfl (Nat.le_of_ble_eq_true rfl) ?_
  refine lv_iload hx hb dL_law_2275 (lv_at hl 1 rfl) ?_
  refine lv_icmp_eq (tgt := 2282) hx hb dL_law_2277 (by decide) (fun _ => ?_) (fun h => absurd ht h)
  refine lv_iload hx hb dL_law_2282 (lv_at hl 1 rfl) ?_
  refine lv_if_ne (tgt := 2299) hx hb dL_law_2284 (by decide) (fun _ => ?_) (fun hz0 => ?_)
  · refine lv_goto (tgt := 2403) hx hb dL_law_2299 (by decide) ?_
    exact kk rc.2.2 rm.2 (hO rc.1 f1 rc.2.1) f2 ls H locs hR2 hP hD hS (lv_sub hl [2, 3, 4, 5, 6, 7] rfl)
  · have hk0 : rc.1 = 0 := by
      rcases hk with hk | hk
      · exact hk
      · rw [hk] at hz0; exact absurd hz0 (by decide)
    refine lv_aload_n hx hb dL_law_2287 rfl (lv_at hl 4 rfl) ?_
    refine lv_iconst (v := 0) hx hb dL_law_2288 (by decide) ?_
    rw [lwW_1] at hP
    refine va_lald (n := 1) hx hb hK hP ((wM a G rm.2).length + (wTS B G rc.2.2).length) 3 (jAt1 _ _ _ _) rfl (inb_of (by decide)) dL_law_2289 ?_
    rw [← lwW_1] at hP
    refine lv_iload hx hb dL_law_2290 (lv_at hl 0 rfl) ?_
    refine lv_i2l hx hb dL_law_2292 rfl ?_
    refine W.lcmp hx hb dL_law_2293 ?_
    have hzz : lg_cmp ((hO rc.1 f1 rc.2.1) (0 : Int32).toNatClampNeg) rm.1.toInt64 = 0 := lgc (by unfold hO; rw [if_pos hk0, hv hk0]; rfl)
    refine lv_if_eq (tgt := 2299) hx hb dL_law_2294 (by decide) (fun _ => ?_) (fun h => absurd hzz h)
    refine lv_goto (tgt := 2403) hx hb dL_law_2299 (by decide) ?_
    exact kk rc.2.2 rm.2 (hO rc.1 f1 rc.2.1) f2 ls H locs hR2 hP hD hS (lv_sub hl [2, 3, 4, 5, 6, 7] rfl)
def jE_undo (Rl : (Nat → Nat → Nat → Int32) → (Nat → Nat → Int32) → Prop) : Prop := ∀ (S : Nat → Nat → Nat → Int32) (M : Nat → Nat → Int32), Rl S M → ∃ (N1 : Nat) (rc : _) (N2 : Nat) (rm : _), F_X8_undo N1 S = some rc ∧ F_X9_undo N2 M = some rm ∧ (rc.1 = 0 ∨ rc.1 = 5) ∧ rm.2 0 0 = hk_undo rc.1 ∧ (rc.1 = 0 → rc.2.1 = rm.1) ∧ Rl rc.2.2 rm.2
theorem hy_undo : hY yL_undo cL_undo 3 [(0, 8, 11, 51)] 2 := ⟨by decide +kernel, jq_51_6, jq_6_7⟩
set_option maxHeartbeats 4000000 in
set_option maxRecDepth 100000 in
theorem lc_undo {p : Program} {l : Launch} {e : Env} {s : State} {m : MethodId} {args : Array Value} {below : List Frame} {meth : Method} {c : Code} {Q : State → Prop} {D : va_G} {G : Nat → ClassId} {A : Nat → Prop} {ks va : Nat → Nat} {b L i : Nat} {xs : Nat → Int32} {a : Nat → Nat} {B : Nat → Nat → Nat} {o1 o2 : Nat} {Rl : (Nat → Nat → Nat → Int32) → (Nat → Nat → Int32) → Prop} {ret : Option FieldType}
    (C : Cx p s m args meth c cL_law 9 RL ret D G) (hl0 : l.stackTraces = false) (hZ : jZ ks va A s s.heap) (hC : jC s) (hA : ∀ q : Nat, s.heap.size ≤ q → A q) (hX : va_X b L xs s s.heap) (hbl : b < s.heap.size) (hbA : ¬ A b) (h0 : vp_in (nI i) L) (h1 : vp_in (nI i + 1) L) (h2 : vp_in (nI i + 2) L) (h3 : vp_in (nI i + 3) L) (h4 : vp_in (nI i + 4) L) (hE : jE_undo Rl) : ∀ (S : Nat → Nat → Nat → Int32) (M : Nat → Nat → Int32) (f1 : Nat → Int64) (f2 : Nat → UInt64) (ls : Array Slot) (H : Heap) (locs : List Loc) (cells slots : Nat), cells + 3 ≤ 603072 → slots + 18 ≤ 7174250 → Rl S M → va_P D vwCl (lwW a B G o1 o2 S M f1 f2) H → va_D A (lwW a B G o1 o2 S M f1 f2) → va_S A s.heap H locs → lv_has ls 9 [(5, .int (nI i)), (4, .ref o2), (3, .ref o1), (2, .ref (a 0)), (1, .ref (B 9 0)), (0, .ref b)] → (∀ (S : Nat → Nat → Nat → Int32) (M : Nat → Nat → Int32) (f1 : Nat → Int64) (f2 : Nat → UInt64) (ls : Array Slot) (H : Heap) (locs : List Loc), Rl S M → va_P D vwCl (lwW a B G o1 o2 S M f1 f2) H → va_D A (lwW a B G o1 o2 S M f1 f2) → va_S A s.heap H locs → lv_has ls 9 [(5, .int (nI i)), (4, .ref o2), (3, .ref o1), (2, .ref (a 0)), (1, .ref (B 9 0)), (0, .ref b)] → W p l e room_1 s m args below meth c H locs (cells + 3) (slots + 18) Q (F0 m 2403 ls [])) → W p l e room_1 s m args below meth c H locs cells slots Q (F0 m 2302 ls []) := by
  intro S M f1 f2 ls H locs cells slots hcc hcs hR hP hD hS hl kk
  have hD0 := hD
  obtain ⟨hx, hb, hr, hml, hts, hown, hlocks, hK0⟩ := id C
  have hK := hK0.1
  refine lv_aload_n hx hb dL_law_2302 rfl (lv_at hl 4 rfl) ?_
  refine lv_aload_n hx hb dL_law_2303 rfl (lv_at hl 2 rfl) ?_
  obtain ⟨N1, rc, N2, rm, e1, e2, hk, ht, hv, hR2⟩ := hE S M  hR
  rw [lwW_1] at hP hD
  refine jSh C dL_law_2304 (kh_undo l hl0 D G B ks va o1 f1 N1 S  rc e1 hk) hy_undo jq_51_4 jq_51_5 ⟨Nat.le_of_ble_eq_true rfl, Nat.le_of_ble_eq_true rfl⟩ ⟨by show cells + 1 ≤ 603072; omega, by show slots + 6 ≤ 7174250; omega⟩ hZ hC (jMidP (pre := wM a G M) (mid := wTS B G S ++ [((o1, .inl (G 3, 1, .inr (.inl f1))) : Nat × va_E)]) (post := [((o2, .inl (G 4, 1, .inr (.inr (.inr (.inl f2))))) : Nat × va_E)]) hP) (jMidD (pre := wM a G M) (mid := wTS B G S ++ [((o1, .inl (G 3, 1, .inr (.inl f1))) : Nat × va_E)]) (post := [((o2, .inl (G 4, 1, .inr (.inr (.inr (.inl f2))))) : Nat × va_E)]) hD) hA hS hl (As := [.ref (B 9 0), .ref o1]) (rest := []) rfl (Nat.le_of_ble_eq_true rfl) (fun H1 locs hQ hz hkp hS => ?_)
  have hP := jMidJoin (pre := wM a G M) (mid := wTS B G S ++ [((o1, .inl (G 3, 1, .inr (.inl f1))) : Nat × va_E)]) (mid' := wTS B G rc.2.2 ++ [((o1, .inl (G 3, 1, .inr (.inl (hO rc.1 f1 rc.2.1)))) : Nat × va_E)]) (post := [((o2, .inl (G 4, 1, .inr (.inr (.inr (.inl f2))))) : Nat × va_E)]) hP hD hkp hQ
  have hP : va_P D vwCl (lwW a B G o1 o2 rc.2.2 M (hO rc.1 f1 rc.2.1) f2) H1 := by rw [lwW_1]; exact hP
  have hD : va_D A (lwW a B G o1 o2 rc.2.2 M (hO rc.1 f1 rc.2.1) f2) := lwD hD0
  clear hQ hz hkp
  generalize H1 = H at hP hS ⊢
  refine W.widen (k := cells + 3) (n := slots + 18) (show cells + 1 ≤ cells + 3 by omega) (show slots + 6 ≤ slots + 18 by omega) ?_
  refine lv_istore (lv' := [(6, .int (hk_undo rc.1)), (5, .int (nI i)), (4, .ref o2), (3, .ref o1), (2, .ref (a 0)), (1, .ref (B 9 0)), (0, .ref b)]) hx hb dL_law_2307 hl (by decide) rfl (fun ls hl => ?_)
  refine lv_aload_n hx hb dL_law_2309 rfl (lv_at hl 4 rfl) ?_
  refine jVmI C dL_law_2310 (k_X9_undo l D G a N2 M  rm e2) jy_X9_undo jq_51_15 jq_51_16 jq_51_17 ⟨rfl, rfl, Nat.le_of_ble_eq_true rfl, Nat.le_of_ble_eq_true rfl⟩ ⟨by show cells + 3 ≤ 603072; omega, by show slots + 18 ≤ 7174250; omega⟩ (jMidP (pre := []) (mid := wM a G M) (post := wTS B G rc.2.2 ++ ([((o1, .inl (G 3, 1, .inr (.inl (hO rc.1 f1 rc.2.1)))) : Nat × va_E)] ++ [((o2, .inl (G 4, 1, .inr (.inr (.inr (.inl f2))))) : Nat × va_E)])) hP) (jMidD (pre := []) (mid := wM a G M) (post := wTS B G rc.2.2 ++ ([((o1, .inl (G 3, 1, .inr (.inl (hO rc.1 f1 rc.2.1)))) : Nat × va_E)] ++ [((o2, .inl (G 4, 1, .inr (.inr (.inr (.inl f2))))) : Nat × va_E)])) hD) hA hS (ci := 11) (iw := 0) rfl rfl rfl hl (As := []) (rest := []) rfl (Nat.le_of_ble_eq_true rfl) (fun H1 locs hQ hz hkp hS => ?_)
  have hP : va_P D vwCl (lwW a B G o1 o2 rc.2.2 rm.2 (hO rc.1 f1 rc.2.1) f2) H1 := jMidJoin (pre := []) (mid := wM a G M) (mid' := wM a G rm.2) (post := wTS B G rc.2.2 ++ ([((o1, .inl (G 3, 1, .inr (.inl (hO rc.1 f1 rc.2.1)))) : Nat × va_E)] ++ [((o2, .inl (G 4, 1, .inr (.inr (.inr (.inl f2))))) : Nat × va_E)])) hP hD hkp hQ
  have hD : va_D A (lwW a B G o1 o2 rc.2.2 rm.2 (hO rc.1 f1 rc.2.1) f2) := lwD hD0
  clear hQ hz hkp
  generalize H1 = H at hP hS ⊢
  refine lv_istore (lv' := [(7, .int rm.1), (6, .int (hk_undo rc.1)), (5, .int (nI i)), (4, .ref o2), (3, .ref o1), (2, .ref (a 0)), (1, .ref (B 9 0)), (0, .ref b)]) hx hb dL_law_2313 hl (by decide) rfl (fun ls hl => ?_)
  refine lv_aload_n hx hb dL_law_2315 rfl (lv_at hl 5 rfl) ?_
  refine jVpI C dL_law_2316 (k_X9_thrown l D G a N2 rm.2 (rm.2 0 0) rfl) jy_X9_thrown jq_15_8 jq_15_9 jq_15_10 ⟨rfl, rfl, Nat.le_of_ble_eq_true rfl, Nat.le_of_ble_eq_true rfl⟩ ⟨by show cells + 3 ≤ 603072; omega, by show slots + 18 ≤ 7174250; omega⟩ (jMidP (pre := []) (mid := wM a G rm.2) (post := wTS B G rc.2.2 ++ ([((o1, .inl (G 3, 1, .inr (.inl (hO rc.1 f1 rc.2.1)))) : Nat × va_E)] ++ [((o2, .inl (G 4, 1, .inr (.inr (.inr (.inl f2))))) : Nat × va_E)])) hP) (ci := 11) (iw := 0) rfl rfl rfl hl (As := []) (rest := []) rfl (Nat.le_of_ble_eq_true rfl) ?_
  refine lv_iload hx hb dL_law_2319 (lv_at hl 1 rfl) ?_
  refine lv_icmp_eq (tgt := 2326) hx hb dL_law_2321 (by decide) (fun _ => ?_) (fun h => absurd ht h)
  refine lv_iload hx hb dL_law_2326 (lv_at hl 1 rfl) ?_
  refine lv_if_ne (tgt := 2343) hx hb dL_law_2328 (by decide) (fun _ => ?_) (fun hz0 => ?_)
  · refine lv_goto (tgt := 2403) hx hb dL_law_2343 (by decide) ?_
    exact kk rc.2.2 rm.2 (hO rc.1 f1 rc.2.1) f2 ls H locs hR2 hP hD hS (lv_sub hl [2, 3, 4, 5, 6, 7] rfl)
  · have hk0 : rc.1 = 0 := by
      rcases hk with hk | hk
      · exact hk
      · rw [hk] at hz0; exact absurd hz0 (by decide)
    refine lv_aload_n hx hb dL_law_2331 rfl (lv_at hl 4 rfl) ?_
    refine lv_iconst (v := 0) hx hb dL_law_2332 (by decide) ?_
    rw [lwW_1] at hP
    refine va_lald (n := 1) hx hb hK hP ((wM a G rm.2).length + (wTS B G rc.2.2).length) 3 (jAt1 _ _ _ _) rfl (inb_of (by decide)) dL_law_2333 ?_
    rw [← lwW_1] at hP
    refine lv_iload hx hb dL_law_2334 (lv_at hl 0 rfl) ?_
    refine lv_i2l hx hb dL_law_2336 rfl ?_
    refine W.lcmp hx hb dL_law_2337 ?_
    have hzz : lg_cmp ((hO rc.1 f1 rc.2.1) (0 : Int32).toNatClampNeg) rm.1.toInt64 = 0 := lgc (by unfold hO; rw [if_pos hk0, hv hk0]; rfl)
    refine lv_if_eq (tgt := 2343) hx hb dL_law_2338 (by decide) (fun _ => ?_) (fun h => absurd hzz h)
    refine lv_goto (tgt := 2403) hx hb dL_law_2343 (by decide) ?_
    exact kk rc.2.2 rm.2 (hO rc.1 f1 rc.2.1) f2 ls H locs hR2 hP hD hS (lv_sub hl [2, 3, 4, 5, 6, 7] rfl)
def jE_save (Rl : (Nat → Nat → Nat → Int32) → (Nat → Nat → Int32) → Prop) : Prop := ∀ (S : Nat → Nat → Nat → Int32) (M : Nat → Nat → Int32), Rl S M → ∃ (N1 : Nat) (rc : _) (N2 : Nat) (rm : _), F_X8_save N1 S = some rc ∧ F_X9_save N2 M = some rm ∧ rc.1 = rm.1 ∧ Rl rc.2 rm.2
set_option maxHeartbeats 4000000 in
set_option maxRecDepth 100000 in
theorem lc_save {p : Program} {l : Launch} {e : Env} {s : State} {m : MethodId} {args : Array Value} {below : List Frame} {meth : Method} {c : Code} {Q : State → Prop} {D : va_G} {G : Nat → ClassId} {A : Nat → Prop} {ks va : Nat → Nat} {b L i : Nat} {xs : Nat → Int32} {a : Nat → Nat} {B : Nat → Nat → Nat} {o1 o2 : Nat} {Rl : (Nat → Nat → Nat → Int32) → (Nat → Nat → Int32) → Prop} {ret : Option FieldType}
    (C : Cx p s m args meth c cL_law 9 RL ret D G) (hl0 : l.stackTraces = false) (hZ : jZ ks va A s s.heap) (hC : jC s) (hA : ∀ q : Nat, s.heap.size ≤ q → A q) (hX : va_X b L xs s s.heap) (hbl : b < s.heap.size) (hbA : ¬ A b) (h0 : vp_in (nI i) L) (h1 : vp_in (nI i + 1) L) (h2 : vp_in (nI i + 2) L) (h3 : vp_in (nI i + 3) L) (h4 : vp_in (nI i + 4) L) (hE : jE_save Rl) : ∀ (S : Nat → Nat → Nat → Int32) (M : Nat → Nat → Int32) (f1 : Nat → Int64) (f2 : Nat → UInt64) (ls : Array Slot) (H : Heap) (locs : List Loc) (cells slots : Nat), cells + 3 ≤ 603072 → slots + 18 ≤ 7174250 → Rl S M → va_P D vwCl (lwW a B G o1 o2 S M f1 f2) H → va_D A (lwW a B G o1 o2 S M f1 f2) → va_S A s.heap H locs → lv_has ls 9 [(5, .int (nI i)), (4, .ref o2), (3, .ref o1), (2, .ref (a 0)), (1, .ref (B 9 0)), (0, .ref b)] → (∀ (S : Nat → Nat → Nat → Int32) (M : Nat → Nat → Int32) (f1 : Nat → Int64) (f2 : Nat → UInt64) (ls : Array Slot) (H : Heap) (locs : List Loc), Rl S M → va_P D vwCl (lwW a B G o1 o2 S M f1 f2) H → va_D A (lwW a B G o1 o2 S M f1 f2) → va_S A s.heap H locs → lv_has ls 9 [(5, .int (nI i)), (4, .ref o2), (3, .ref o1), (2, .ref (a 0)), (1, .ref (B 9 0)), (0, .ref b)] → W p l e room_1 s m args below meth c H locs (cells + 3) (slots + 18) Q (F0 m 2403 ls [])) → W p l e room_1 s m args below meth c H locs cells slots Q (F0 m 2346 ls []) := by
  intro S M f1 f2 ls H locs cells slots hcc hcs hR hP hD hS hl kk
  have hD0 := hD
  obtain ⟨hx, hb, hr, hml, hts, hown, hlocks, hK0⟩ := id C
  have hK := hK0.1
  refine lv_aload_n hx hb dL_law_2346 rfl (lv_at hl 4 rfl) ?_
  obtain ⟨N1, rc, N2, rm, e1, e2, hv, hR2⟩ := hE S M hR
  refine W.widen (k := cells + 3) (n := slots + 18) (by omega) (by omega) ?_
  refine jVmI C dL_law_2347 (k_X8_save l D G B N1 S rc e1) jy_X8_save jq_51_19 jq_51_20 jq_51_21 ⟨rfl, rfl, Nat.le_of_ble_eq_true rfl, Nat.le_of_ble_eq_true rfl⟩ ⟨by show cells + 3 ≤ 603072; omega, by show slots + 18 ≤ 7174250; omega⟩ (jMidP (pre := wM a G M) (mid := wTS B G S) (post := ([((o1, .inl (G 3, 1, .inr (.inl f1))) : Nat × va_E)] ++ [((o2, .inl (G 4, 1, .inr (.inr (.inr (.inl f2))))) : Nat × va_E)])) hP) (jMidD (pre := wM a G M) (mid := wTS B G S) (post := ([((o1, .inl (G 3, 1, .inr (.inl f1))) : Nat × va_E)] ++ [((o2, .inl (G 4, 1, .inr (.inr (.inr (.inl f2))))) : Nat × va_E)])) hD) hA hS (ci := 10) (iw := 0) rfl rfl rfl hl (As := []) (rest := []) rfl (Nat.le_of_ble_eq_true rfl) (fun H1 locs hQ hz hkp hS => ?_)
  have hP : va_P D vwCl (lwW a B G o1 o2 rc.2 M f1 f2) H1 := jMidJoin (pre := wM a G M) (mid := wTS B G S) (mid' := wTS B G rc.2) (post := ([((o1, .inl (G 3, 1, .inr (.inl f1))) : Nat × va_E)] ++ [((o2, .inl (G 4, 1, .inr (.inr (.inr (.inl f2))))) : Nat × va_E)])) hP hD hkp hQ
  have hD : va_D A (lwW a B G o1 o2 rc.2 M f1 f2) := lwD hD0
  clear hQ hz hkp
  generalize H1 = H at hP hS ⊢
  refine lv_aload_n hx hb dL_law_2350 rfl (lv_at hl 3 rfl) ?_
  refine jVmI C dL_law_2351 (k_X9_save l D G a N2 M  rm e2) jy_X9_save jq_52_1 jq_52_2 jq_52_3 ⟨rfl, rfl, Nat.le_of_ble_eq_true rfl, Nat.le_of_ble_eq_true rfl⟩ ⟨by show cells + 3 ≤ 603072; omega, by show slots + 18 ≤ 7174250; omega⟩ (jMidP (pre := []) (mid := wM a G M) (post := wTS B G rc.2 ++ ([((o1, .inl (G 3, 1, .inr (.inl f1))) : Nat × va_E)] ++ [((o2, .inl (G 4, 1, .inr (.inr (.inr (.inl f2))))) : Nat × va_E)])) hP) (jMidD (pre := []) (mid := wM a G M) (post := wTS B G rc.2 ++ ([((o1, .inl (G 3, 1, .inr (.inl f1))) : Nat × va_E)] ++ [((o2, .inl (G 4, 1, .inr (.inr (.inr (.inl f2))))) : Nat × va_E)])) hD) hA hS (ci := 11) (iw := 0) rfl rfl rfl hl (As := []) (rest := [.int rc.1]) rfl (Nat.le_of_ble_eq_true rfl) (fun H1 locs hQ hz hkp hS => ?_)
  have hP : va_P D vwCl (lwW a B G o1 o2 rc.2 rm.2 f1 f2) H1 := jMidJoin (pre := []) (mid := wM a G M) (mid' := wM a G rm.2) (post := wTS B G rc.2 ++ ([((o1, .inl (G 3, 1, .inr (.inl f1))) : Nat × va_E)] ++ [((o2, .inl (G 4, 1, .inr (.inr (.inr (.inl f2))))) : Nat × va_E)])) hP hD hkp hQ
  have hD : va_D A (lwW a B G o1 o2 rc.2 rm.2 f1 f2) := lwD hD0
  clear hQ hz hkp
  generalize H1 = H at hP hS ⊢
  refine lv_icmp_eq (tgt := 2403) hx hb dL_law_2354 (by decide) (fun _ => ?_) (fun h => absurd hv h)
  exact kk rc.2 rm.2 f1 f2 ls H locs hR2 hP hD hS (lv_sub hl [0, 1, 2, 3, 4, 5] rfl)
def jE_restore (Rl : (Nat → Nat → Nat → Int32) → (Nat → Nat → Int32) → Prop) : Prop := ∀ (S : Nat → Nat → Nat → Int32) (M : Nat → Nat → Int32), Rl S M → ∃ (N1 : Nat) (rc : _) (N2 : Nat) (rm : _), F_X8_restore N1 S = some rc ∧ F_X9_restore N2 M = some rm ∧ (rc.1 = 0 ∨ rc.1 = 3) ∧ rm.2 0 0 = hk_restore rc.1 ∧ (rc.1 = 0 → rc.2.1 = rm.1) ∧ Rl rc.2.2 rm.2
theorem hy_restore : hY yL_restore cL_restore 3 [(0, 8, 11, 30)] 2 := ⟨by decide +kernel, jq_52_8, jq_6_7⟩
set_option maxHeartbeats 4000000 in
set_option maxRecDepth 100000 in
theorem lc_restore {p : Program} {l : Launch} {e : Env} {s : State} {m : MethodId} {args : Array Value} {below : List Frame} {meth : Method} {c : Code} {Q : State → Prop} {D : va_G} {G : Nat → ClassId} {A : Nat → Prop} {ks va : Nat → Nat} {b L i : Nat} {xs : Nat → Int32} {a : Nat → Nat} {B : Nat → Nat → Nat} {o1 o2 : Nat} {Rl : (Nat → Nat → Nat → Int32) → (Nat → Nat → Int32) → Prop} {ret : Option FieldType}
    (C : Cx p s m args meth c cL_law 9 RL ret D G) (hl0 : l.stackTraces = false) (hZ : jZ ks va A s s.heap) (hC : jC s) (hA : ∀ q : Nat, s.heap.size ≤ q → A q) (hX : va_X b L xs s s.heap) (hbl : b < s.heap.size) (hbA : ¬ A b) (h0 : vp_in (nI i) L) (h1 : vp_in (nI i + 1) L) (h2 : vp_in (nI i + 2) L) (h3 : vp_in (nI i + 3) L) (h4 : vp_in (nI i + 4) L) (hE : jE_restore Rl) : ∀ (S : Nat → Nat → Nat → Int32) (M : Nat → Nat → Int32) (f1 : Nat → Int64) (f2 : Nat → UInt64) (ls : Array Slot) (H : Heap) (locs : List Loc) (cells slots : Nat), cells + 3 ≤ 603072 → slots + 18 ≤ 7174250 → Rl S M → va_P D vwCl (lwW a B G o1 o2 S M f1 f2) H → va_D A (lwW a B G o1 o2 S M f1 f2) → va_S A s.heap H locs → lv_has ls 9 [(5, .int (nI i)), (4, .ref o2), (3, .ref o1), (2, .ref (a 0)), (1, .ref (B 9 0)), (0, .ref b)] → (∀ (S : Nat → Nat → Nat → Int32) (M : Nat → Nat → Int32) (f1 : Nat → Int64) (f2 : Nat → UInt64) (ls : Array Slot) (H : Heap) (locs : List Loc), Rl S M → va_P D vwCl (lwW a B G o1 o2 S M f1 f2) H → va_D A (lwW a B G o1 o2 S M f1 f2) → va_S A s.heap H locs → lv_has ls 9 [(5, .int (nI i)), (4, .ref o2), (3, .ref o1), (2, .ref (a 0)), (1, .ref (B 9 0)), (0, .ref b)] → W p l e room_1 s m args below meth c H locs (cells + 3) (slots + 18) Q (F0 m 2403 ls [])) → W p l e room_1 s m args below meth c H locs cells slots Q (F0 m 2359 ls []) := by
  intro S M f1 f2 ls H locs cells slots hcc hcs hR hP hD hS hl kk
  have hD0 := hD
  obtain ⟨hx, hb, hr, hml, hts, hown, hlocks, hK0⟩ := id C
  have hK := hK0.1
  refine lv_aload_n hx hb dL_law_2359 rfl (lv_at hl 4 rfl) ?_
  refine lv_aload_n hx hb dL_law_2360 rfl (lv_at hl 2 rfl) ?_
  obtain ⟨N1, rc, N2, rm, e1, e2, hk, ht, hv, hR2⟩ := hE S M  hR
  rw [lwW_1] at hP hD
  refine jSh C dL_law_2361 (kh_restore l hl0 D G B ks va o1 f1 N1 S  rc e1 hk) hy_restore jq_52_6 jq_52_7 ⟨Nat.le_of_ble_eq_true rfl, Nat.le_of_ble_eq_true rfl⟩ ⟨by show cells + 1 ≤ 603072; omega, by show slots + 6 ≤ 7174250; omega⟩ hZ hC (jMidP (pre := wM a G M) (mid := wTS B G S ++ [((o1, .inl (G 3, 1, .inr (.inl f1))) : Nat × va_E)]) (post := [((o2, .inl (G 4, 1, .inr (.inr (.inr (.inl f2))))) : Nat × va_E)]) hP) (jMidD (pre := wM a G M) (mid := wTS B G S ++ [((o1, .inl (G 3, 1, .inr (.inl f1))) : Nat × va_E)]) (post := [((o2, .inl (G 4, 1, .inr (.inr (.inr (.inl f2))))) : Nat × va_E)]) hD) hA hS hl (As := [.ref (B 9 0), .ref o1]) (rest := []) rfl (Nat.le_of_ble_eq_true rfl) (fun H1 locs hQ hz hkp hS => ?_)
  have hP := jMidJoin (pre := wM a G M) (mid := wTS B G S ++ [((o1, .inl (G 3, 1, .inr (.inl f1))) : Nat × va_E)]) (mid' := wTS B G rc.2.2 ++ [((o1, .inl (G 3, 1, .inr (.inl (hO rc.1 f1 rc.2.1)))) : Nat × va_E)]) (post := [((o2, .inl (G 4, 1, .inr (.inr (.inr (.inl f2))))) : Nat × va_E)]) hP hD hkp hQ
  have hP : va_P D vwCl (lwW a B G o1 o2 rc.2.2 M (hO rc.1 f1 rc.2.1) f2) H1 := by rw [lwW_1]; exact hP
  have hD : va_D A (lwW a B G o1 o2 rc.2.2 M (hO rc.1 f1 rc.2.1) f2) := lwD hD0
  clear hQ hz hkp
  generalize H1 = H at hP hS ⊢
  refine W.widen (k := cells + 3) (n := slots + 18) (show cells + 1 ≤ cells + 3 by omega) (show slots + 6 ≤ slots + 18 by omega) ?_
  refine lv_istore (lv' := [(6, .int (hk_restore rc.1)), (5, .int (nI i)), (4, .ref o2), (3, .ref o1), (2, .ref (a 0)), (1, .ref (B 9 0)), (0, .ref b)]) hx hb dL_law_2364 hl (by decide) rfl (fun ls hl => ?_)
  refine lv_aload_n hx hb dL_law_2366 rfl (lv_at hl 4 rfl) ?_
  refine jVmI C dL_law_2367 (k_X9_restore l D G a N2 M  rm e2) jy_X9_restore jq_52_17 jq_52_18 jq_52_19 ⟨rfl, rfl, Nat.le_of_ble_eq_true rfl, Nat.le_of_ble_eq_true rfl⟩ ⟨by show cells + 3 ≤ 603072; omega, by show slots + 18 ≤ 7174250; omega⟩ (jMidP (pre := []) (mid := wM a G M) (post := wTS B G rc.2.2 ++ ([((o1, .inl (G 3, 1, .inr (.inl (hO rc.1 f1 rc.2.1)))) : Nat × va_E)] ++ [((o2, .inl (G 4, 1, .inr (.inr (.inr (.inl f2))))) : Nat × va_E)])) hP) (jMidD (pre := []) (mid := wM a G M) (post := wTS B G rc.2.2 ++ ([((o1, .inl (G 3, 1, .inr (.inl (hO rc.1 f1 rc.2.1)))) : Nat × va_E)] ++ [((o2, .inl (G 4, 1, .inr (.inr (.inr (.inl f2))))) : Nat × va_E)])) hD) hA hS (ci := 11) (iw := 0) rfl rfl rfl hl (As := []) (rest := []) rfl (Nat.le_of_ble_eq_true rfl) (fun H1 locs hQ hz hkp hS => ?_)
  have hP : va_P D vwCl (lwW a B G o1 o2 rc.2.2 rm.2 (hO rc.1 f1 rc.2.1) f2) H1 := jMidJoin (pre := []) (mid := wM a G M) (mid' := wM a G rm.2) (post := wTS B G rc.2.2 ++ ([((o1, .inl (G 3, 1, .inr (.inl (hO rc.1 f1 rc.2.1)))) : Nat × va_E)] ++ [((o2, .inl (G 4, 1, .inr (.inr (.inr (.inl f2))))) : Nat × va_E)])) hP hD hkp hQ
  have hD : va_D A (lwW a B G o1 o2 rc.2.2 rm.2 (hO rc.1 f1 rc.2.1) f2) := lwD hD0
  clear hQ hz hkp
  generalize H1 = H at hP hS ⊢
  refine lv_istore (lv' := [(7, .int rm.1), (6, .int (hk_restore rc.1)), (5, .int (nI i)), (4, .ref o2), (3, .ref o1), (2, .ref (a 0)), (1, .ref (B 9 0)), (0, .ref b)]) hx hb dL_law_2370 hl (by decide) rfl (fun ls hl => ?_)
  refine lv_aload_n hx hb dL_law_2372 rfl (lv_at hl 5 rfl) ?_
  refine jVpI C dL_law_2373 (k_X9_thrown l D G a N2 rm.2 (rm.2 0 0) rfl) jy_X9_thrown jq_15_8 jq_15_9 jq_15_10 ⟨rfl, rfl, Nat.le_of_ble_eq_true rfl, Nat.le_of_ble_eq_true rfl⟩ ⟨by show cells + 3 ≤ 603072; omega, by show slots + 18 ≤ 7174250; omega⟩ (jMidP (pre := []) (mid := wM a G rm.2) (post := wTS B G rc.2.2 ++ ([((o1, .inl (G 3, 1, .inr (.inl (hO rc.1 f1 rc.2.1)))) : Nat × va_E)] ++ [((o2, .inl (G 4, 1, .inr (.inr (.inr (.inl f2))))) : Nat × va_E)])) hP) (ci := 11) (iw := 0) rfl rfl rfl hl (As := []) (rest := []) rfl (Nat.le_of_ble_eq_true rfl) ?_
  refine lv_iload hx hb dL_law_2376 (lv_at hl 1 rfl) ?_
  refine lv_icmp_eq (tgt := 2383) hx hb dL_law_2378 (by decide) (fun _ => ?_) (fun h => absurd ht h)
  refine lv_iload hx hb dL_law_2383 (lv_at hl 1 rfl) ?_
  refine lv_if_ne (tgt := 2400) hx hb dL_law_2385 (by decide) (fun _ => ?_) (fun hz0 => ?_)
  · refine lv_goto (tgt := 2403) hx hb dL_law_2400 (by decide) ?_
    exact kk rc.2.2 rm.2 (hO rc.1 f1 rc.2.1) f2 ls H locs hR2 hP hD hS (lv_sub hl [2, 3, 4, 5, 6, 7] rfl)
  · have hk0 : rc.1 = 0 := by
      rcases hk with hk | hk
      · exact hk
      · rw [hk] at hz0; exact absurd hz0 (by decide)
    refine lv_aload_n hx hb dL_law_2388 rfl (lv_at hl 4 rfl) ?_
    refine lv_iconst (v := 0) hx hb dL_law_2389 (by decide) ?_
    rw [lwW_1] at hP
    refine va_lald (n := 1) hx hb hK hP ((wM a G rm.2).length + (wTS B G rc.2.2).length) 3 (jAt1 _ _ _ _) rfl (inb_of (by decide)) dL_law_2390 ?_
    rw [← lwW_1] at hP
    refine lv_iload hx hb dL_law_2391 (lv_at hl 0 rfl) ?_
    refine lv_i2l hx hb dL_law_2393 rfl ?_
    refine W.lcmp hx hb dL_law_2394 ?_
    have hzz : lg_cmp ((hO rc.1 f1 rc.2.1) (0 : Int32).toNatClampNeg) rm.1.toInt64 = 0 := lgc (by unfold hO; rw [if_pos hk0, hv hk0]; rfl)
    refine lv_if_eq (tgt := 2400) hx hb dL_law_2395 (by decide) (fun _ => ?_) (fun h => absurd hzz h)
    refine lv_goto (tgt := 2403) hx hb dL_law_2400 (by decide) ?_
    exact kk rc.2.2 rm.2 (hO rc.1 f1 rc.2.1) f2 ls H locs hR2 hP hD hS (lv_sub hl [2, 3, 4, 5, 6, 7] rfl)
