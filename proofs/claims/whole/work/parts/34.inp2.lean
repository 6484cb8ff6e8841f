def fIx (c : Int32) : Nat := if c = 101 then 3 else if c = 104 then 2 else if c = 108 then 2 else if c = 109 then 4 else if c = 114 then 0 else if c = 115 then 0 else if c = 119 then 1 else 5
theorem jy_X1_formOf : jY yX1_formOf cX1_formOf 1 (some (.object "java/lang/String")) 1 := ⟨by decide +kernel, jq_45_23, jq_2_1⟩
set_option maxHeartbeats 4000000 in
set_option maxRecDepth 100000 in
theorem z_formOf (l : Launch) (D : va_G) (G : Nat → ClassId) (ks va : Nat → Nat) (A : Nat → Prop) (x : Int32) : zP l yX1_formOf (jws yX1_formOf cX1_formOf 1 (some (.object "java/lang/String"))) ({ frames := 0, cells := 0, slots := 0, locals := 0 } : Room) [.int x] D G ks va A (some (.ref (ks (fIx x)))) := by
  refine zP_of (by decide +kernel) (Nat.le_of_ble_eq_true rfl) (fun p e s m args below meth c ls C hZ hl => ?_)
  have C : Cx p s m args meth c cX1_formOf 1 RX1 (some (.object "java/lang/String")) D G := C
  obtain ⟨hx, hb, hr, hml, hts, hown, hlocks, hK0⟩ := id C
  have hl : lv_has ls 1 [(0, .int x)] := hl
  refine lv_iload_n hx hb dX1_formOf_0 rfl (lv_at hl 0 rfl) ?_
  by_cases c101 : x = 101
  · have ef : fIx x = 3 := by unfold fIx; rw [if_pos c101]
    rw [ef]
    refine lv_tableIn (tgt := 107) hx hb dX1_formOf_1 (by rw [c101]; decide) (by rw [c101]; decide) (by rw [c101]; rfl) (by decide) ?_
    refine va_ldcS (index := 76) (tx := "#:#>#") hx hb hown (hZ.2.2.2.1 3 (by decide)) dX1_formOf_107 ?_
    exact W.aret (v := .ref (ks 3)) hx hb hr (Or.inl ⟨_, rfl⟩) (Or.inr ⟨_, rfl⟩) (fun t ht _ => ⟨rfl, ht⟩) (fun q h => nomatch h) dX1_formOf_109 hlocks
  · by_cases c104 : x = 104
    · have ef : fIx x = 2 := by unfold fIx; rw [if_neg c101, if_pos c104]
      rw [ef]
      refine lv_tableIn (tgt := 101) hx hb dX1_formOf_1 (by rw [c104]; decide) (by rw [c104]; decide) (by rw [c104]; rfl) (by decide) ?_
      refine va_ldcS (index := 74) (tx := "#:#") hx hb hown (hZ.2.2.2.1 2 (by decide)) dX1_formOf_101 ?_
      exact W.aret (v := .ref (ks 2)) hx hb hr (Or.inl ⟨_, rfl⟩) (Or.inr ⟨_, rfl⟩) (fun t ht _ => ⟨rfl, ht⟩) (fun q h => nomatch h) dX1_formOf_103 hlocks
    · by_cases c108 : x = 108
      · have ef : fIx x = 2 := by unfold fIx; rw [if_neg c101, if_neg c104, if_pos c108]
        rw [ef]
        refine lv_tableIn (tgt := 104) hx hb dX1_formOf_1 (by rw [c108]; decide) (by rw [c108]; decide) (by rw [c108]; rfl) (by decide) ?_
        refine va_ldcS (index := 74) (tx := "#:#") hx hb hown (hZ.2.2.2.1 2 (by decide)) dX1_formOf_104 ?_
        exact W.aret (v := .ref (ks 2)) hx hb hr (Or.inl ⟨_, rfl⟩) (Or.inr ⟨_, rfl⟩) (fun t ht _ => ⟨rfl, ht⟩) (fun q h => nomatch h) dX1_formOf_106 hlocks
      · by_cases c109 : x = 109
        · have ef : fIx x = 4 := by unfold fIx; rw [if_neg c101, if_neg c104, if_neg c108, if_pos c109]
          rw [ef]
          refine lv_tableIn (tgt := 110) hx hb dX1_formOf_1 (by rw [c109]; decide) (by rw [c109]; decide) (by rw [c109]; rfl) (by decide) ?_
          refine va_ldcS (index := 78) (tx := "#@#") hx hb hown (hZ.2.2.2.1 4 (by decide)) dX1_formOf_110 ?_
          exact W.aret (v := .ref (ks 4)) hx hb hr (Or.inl ⟨_, rfl⟩) (Or.inr ⟨_, rfl⟩) (fun t ht _ => ⟨rfl, ht⟩) (fun q h => nomatch h) dX1_formOf_112 hlocks
        · by_cases c114 : x = 114
          · have ef : fIx x = 0 := by unfold fIx; rw [if_neg c101, if_neg c104, if_neg c108, if_neg c109, if_pos c114]
            rw [ef]
            refine lv_tableIn (tgt := 95) hx hb dX1_formOf_1 (by rw [c114]; decide) (by rw [c114]; decide) (by rw [c114]; rfl) (by decide) ?_
            refine va_ldcS (index := 70) (tx := "#x#") hx hb hown (hZ.2.2.2.1 0 (by decide)) dX1_formOf_95 ?_
            exact W.aret (v := .ref (ks 0)) hx hb hr (Or.inl ⟨_, rfl⟩) (Or.inr ⟨_, rfl⟩) (fun t ht _ => ⟨rfl, ht⟩) (fun q h => nomatch h) dX1_formOf_97 hlocks
          · by_cases c115 : x = 115
            · have ef : fIx x = 0 := by unfold fIx; rw [if_neg c101, if_neg c104, if_neg c108, if_neg c109, if_neg c114, if_pos c115]
              rw [ef]
              refine lv_tableIn (tgt := 92) hx hb dX1_formOf_1 (by rw [c115]; decide) (by rw [c115]; decide) (by rw [c115]; rfl) (by decide) ?_
              refine va_ldcS (index := 70) (tx := "#x#") hx hb hown (hZ.2.2.2.1 0 (by decide)) dX1_formOf_92 ?_
              exact W.aret (v := .ref (ks 0)) hx hb hr (Or.inl ⟨_, rfl⟩) (Or.inr ⟨_, rfl⟩) (fun t ht _ => ⟨rfl, ht⟩) (fun q h => nomatch h) dX1_formOf_94 hlocks
            · by_cases c119 : x = 119
              · have ef : fIx x = 1 := by unfold fIx; rw [if_neg c101, if_neg c104, if_neg c108, if_neg c109, if_neg c114, if_neg c115, if_pos c119]
                rw [ef]
                refine lv_tableIn (tgt := 98) hx hb dX1_formOf_1 (by rw [c119]; decide) (by rw [c119]; decide) (by rw [c119]; rfl) (by decide) ?_
                refine va_ldcS (index := 72) (tx := "#x#!1") hx hb hown (hZ.2.2.2.1 1 (by decide)) dX1_formOf_98 ?_
                exact W.aret (v := .ref (ks 1)) hx hb hr (Or.inl ⟨_, rfl⟩) (Or.inr ⟨_, rfl⟩) (fun t ht _ => ⟨rfl, ht⟩) (fun q h => nomatch h) dX1_formOf_100 hlocks
              · refine jTabDef (tgt := 113) hx hb dX1_formOf_1 (fun k h1 h2 h3 => ?_) (by decide) ?_
                · rcases (show k = 101 ∨ k = 102 ∨ k = 103 ∨ k = 104 ∨ k = 105 ∨ k = 106 ∨ k = 107 ∨ k = 108 ∨ k = 109 ∨ k = 110 ∨ k = 111 ∨ k = 112 ∨ k = 113 ∨ k = 114 ∨ k = 115 ∨ k = 116 ∨ k = 117 ∨ k = 118 ∨ k = 119 by omega) with rfl | rfl | rfl | rfl | rfl | rfl | rfl | rfl | rfl | rfl | rfl | rfl | rfl | rfl | rfl | rfl | rfl | rfl | rfl <;> first | rfl | exact absurd (Int32.toInt_inj.mp (h3.trans (by decide))) c101 | exact absurd (Int32.toInt_inj.mp (h3.trans (by decide))) c104 | exact absurd (Int32.toInt_inj.mp (h3.trans (by decide))) c108 | exact absurd (Int32.toInt_inj.mp (h3.trans (by decide))) c109 | exact absurd (Int32.toInt_inj.mp (h3.trans (by decide))) c114 | exact absurd (Int32.toInt_inj.mp (h3.trans (by decide))) c115 | exact absurd (Int32.toInt_inj.mp (h3.trans (by decide))) c119
                · have ef : fIx x = 5 := by unfold fIx; rw [if_neg c101, if_neg c104, if_neg c108, if_neg c109, if_neg c114, if_neg c115, if_neg c119]
                  rw [ef]
                  refine va_ldcS (index := 80) (tx := "") hx hb hown (hZ.2.2.2.1 5 (by decide)) dX1_formOf_113 ?_
                  exact W.aret (v := .ref (ks 5)) hx hb hr (Or.inl ⟨_, rfl⟩) (Or.inr ⟨_, rfl⟩) (fun t ht _ => ⟨rfl, ht⟩) (fun q h => nomatch h) dX1_formOf_115 hlocks
theorem jy_X1_takeCommand : jY yX1_takeCommand cX1_takeCommand 6 (some .boolean) 0 := ⟨by decide +kernel, jq_45_15, jq_2_1⟩
def D_X1_takeCommand_94 (N : Nat)  (k39 : (Nat → Nat → Int32) → Nat → Int32 → Int32 → Option (Int32 × (Nat → Nat → Int32))) (M : Nat → Nat → Int32) (v1 : Nat) (v2 : Int32) (v3 : Int32) (v5 : Int32) (s0 : Int32) (s1 : Int32) : Option (Int32 × (Nat → Nat → Int32)) := ((F_X1_takeNumber N M s1 s0).bind (fun r1 => (if r1.1 = 0 then (some ((0 : Int32), r1.2)) else (if v5 = 0 then (k39 r1.2 v1 v2 (v3 + 1)) else (k39 r1.2 v1 (v2 + 1) (v3 + 1))))))
set_option maxHeartbeats 4000000 in
set_option maxRecDepth 100000 in
theorem B_X1_takeCommand_94 {p : Program} {l : Launch} {e : Env} {s : State} {m : MethodId} {args : Array Value} {below : List Frame} {meth : Method} {c : Code} {D : va_G} {G : Nat → ClassId} {A : Nat → Prop} (C : Cx p s m args meth c cX1_takeCommand 6 RX1 (some .boolean) D G) (hA : ∀ q : Nat, s.heap.size ≤ q → A q) (ks va : Nat → Nat) (hZ : jZ ks va A s s.heap) (N : Nat) (a : Nat → Nat) (r : (Int32 × (Nat → Nat → Int32))) (k39 : (Nat → Nat → Int32) → Nat → Int32 → Int32 → Option (Int32 × (Nat → Nat → Int32))) (hk39 : (∀ (M : Nat → Nat → Int32) (v1 : Nat) (v2 : Int32) (v3 : Int32) (ls : Array Slot) (H : Heap) (locs : List Loc), va_P D vwCl (wInp a G M) H → va_D A (wInp a G M) → va_S A s.heap H locs → lv_has ls 6 [(0, .ref (a 3)), (1, .ref (ks v1)), (2, .int v2), (3, .int v3)] → k39 M v1 v2 v3 = some r → W p l e ({ frames := 4, cells := 0, slots := 0, locals := 111 } : Room) s m args below meth c H locs 0 0 (MQ below (mQ D (wInp a G r.2) (some (.int r.1)) A) args s 0 0 A) (F0 m 39 ls []))) : (∀ (M : Nat → Nat → Int32) (v1 : Nat) (v2 : Int32) (v3 : Int32) (v5 : Int32) (s0 : Int32) (s1 : Int32) (ls : Array Slot) (H : Heap) (locs : List Loc), va_P D vwCl (wInp a G M) H → va_D A (wInp a G M) → va_S A s.heap H locs → lv_has ls 6 [(0, .ref (a 3)), (1, .ref (ks v1)), (2, .int v2), (3, .int v3), (5, .int v5)] → D_X1_takeCommand_94 N  k39 M v1 v2 v3 v5 s0 s1 = some r → W p l e ({ frames := 4, cells := 0, slots := 0, locals := 111 } : Room) s m args below meth c H locs 0 0 (MQ below (mQ D (wInp a G r.2) (some (.int r.1)) A) args s 0 0 A) (F0 m 94 ls [.int s0, .int s1, .ref (a 3)])) := by
  have C := C
  obtain ⟨hx, hb, hr, hml, hts, hown, hlocks, hK0⟩ := id C
  have hK := hK0.1
  intro M v1 v2 v3 v5 s0 s1 ls H locs hP hD hS hl hV
  rw [D_X1_takeCommand_94] at hV
  obtain ⟨r1, hr1, hV⟩ := jBind hV
  refine jVmI C dX1_takeCommand_94 (k_X1_takeNumber l D G a N M s1 s0 r1 hr1) jy_X1_takeNumber jq_48_5 jq_48_6 jq_48_7 ⟨rfl, rfl, Nat.le_of_ble_eq_true rfl, Nat.le_of_ble_eq_true rfl⟩ ⟨Nat.le_of_ble_eq_true rfl, Nat.le_of_ble_eq_true rfl⟩ hP hD hA hS (ci := 3) (iw := 0) rfl rfl rfl hl (rest := []) rfl (Nat.le_of_ble_eq_true rfl) (fun H locs hQ hz hkp hS => ?_)
  have hP : va_P D vwCl (wInp a G r1.2) H := hQ
  have hD : va_D A (wInp a G r1.2) := jD (w := (wInp a G M)) rfl hD
  refine lv_if_ne (tgt := 114) hx hb dX1_takeCommand_97 (by decide) (fun c3 => ?_) (fun c3 => ?_)
  · have hV := jF1 hV c3
    refine lv_iload hx hb dX1_takeCommand_114 (lv_at hl 4 rfl) ?_
    refine lv_if_eq (tgt := 122) hx hb dX1_takeCommand_116 (by decide) (fun c2 => ?_) (fun c2 => ?_)
    · have hV := jT1 hV c2
      refine lv_iinc (v := (v3 + 1)) (lv' := [(3, .int (v3 + 1)), (0, .ref (a 3)), (1, .ref (ks v1)), (2, .int v2), (5, .int v5)]) hx hb dX1_takeCommand_122 hl (k := 3) rfl rfl (by decide) rfl (fun ls hl => ?_)
      refine lv_goto (tgt := 39) hx hb dX1_takeCommand_125 (by decide) ?_
      exact hk39 r1.2 v1 v2 (v3 + 1) _ _ _ hP hD hS (lv_sub hl [1, 2, 3, 0] rfl) hV
    · have hV := jF1 hV c2
      refine lv_iinc (v := (v2 + 1)) (lv' := [(2, .int (v2 + 1)), (0, .ref (a 3)), (1, .ref (ks v1)), (3, .int v3), (5, .int v5)]) hx hb dX1_takeCommand_119 hl (k := 2) rfl rfl (by decide) rfl (fun ls hl => ?_)
      refine lv_iinc (v := (v3 + 1)) (lv' := [(3, .int (v3 + 1)), (2, .int (v2 + 1)), (0, .ref (a 3)), (1, .ref (ks v1)), (5, .int v5)]) hx hb dX1_takeCommand_122 hl (k := 3) rfl rfl (by decide) rfl (fun ls hl => ?_)
      refine lv_goto (tgt := 39) hx hb dX1_takeCommand_125 (by decide) ?_
      exact hk39 r1.2 v1 (v2 + 1) (v3 + 1) _ _ _ hP hD hS (lv_sub hl [2, 3, 1, 0] rfl) hV
  · have hV := jT1 hV c3
    refine lv_goto (tgt := 112) hx hb dX1_takeCommand_100 (by decide) ?_
    refine lv_iconst (v := 0) hx hb dX1_takeCommand_112 (by decide) ?_
    cases hV
    exact mRet C rfl dX1_takeCommand_113 rfl rfl hP hS
def D_X1_takeCommand_73 (N : Nat)  (k39 : (Nat → Nat → Int32) → Nat → Int32 → Int32 → Option (Int32 × (Nat → Nat → Int32))) (M : Nat → Nat → Int32) (v1 : Nat) (v2 : Int32) (v3 : Int32) (v4 : Int32) (s0 : Int32) : Option (Int32 × (Nat → Nat → Int32)) := (if s0 = 0 then ((F_X1_takeSign N M v4).bind (fun r4 => (if r4.1 = 0 then (some ((0 : Int32), r4.2)) else (if s0 = 0 then (k39 r4.2 v1 v2 (v3 + 1)) else (k39 r4.2 v1 (v2 + 1) (v3 + 1)))))) else (if v4 = (35 : Int32) then (D_X1_takeCommand_94 N  k39 M v1 v2 v3 s0 (1 : Int32) v2) else (D_X1_takeCommand_94 N  k39 M v1 v2 v3 s0 (0 : Int32) v2)))
set_option maxHeartbeats 4000000 in
set_option maxRecDepth 100000 in
theorem B_X1_takeCommand_73 {p : Program} {l : Launch} {e : Env} {s : State} {m : MethodId} {args : Array Value} {below : List Frame} {meth : Method} {c : Code} {D : va_G} {G : Nat → ClassId} {A : Nat → Prop} (C : Cx p s m args meth c cX1_takeCommand 6 RX1 (some .boolean) D G) (hA : ∀ q : Nat, s.heap.size ≤ q → A q) (ks va : Nat → Nat) (hZ : jZ ks va A s s.heap) (N : Nat) (a : Nat → Nat) (r : (Int32 × (Nat → Nat → Int32))) (k39 : (Nat → Nat → Int32) → Nat → Int32 → Int32 → Option (Int32 × (Nat → Nat → Int32))) (hk39 : (∀ (M : Nat → Nat → Int32) (v1 : Nat) (v2 : Int32) (v3 : Int32) (ls : Array Slot) (H : Heap) (locs : List Loc), va_P D vwCl (wInp a G M) H → va_D A (wInp a G M) → va_S A s.heap H locs → lv_has ls 6 [(0, .ref (a 3)), (1, .ref (ks v1)), (2, .int v2), (3, .int v3)] → k39 M v1 v2 v3 = some r → W p l e ({ frames := 4, cells := 0, slots := 0, locals := 111 } : Room) s m args below meth c H locs 0 0 (MQ below (mQ D (wInp a G r.2) (some (.int r.1)) A) args s 0 0 A) (F0 m 39 ls []))) : (∀ (M : Nat → Nat → Int32) (v1 : Nat) (v2 : Int32) (v3 : Int32) (v4 : Int32) (s0 : Int32) (ls : Array Slot) (H : Heap) (locs : List Loc), va_P D vwCl (wInp a G M) H → va_D A (wInp a G M) → va_S A s.heap H locs → lv_has ls 6 [(0, .ref (a 3)), (1, .ref (ks v1)), (2, .int v2), (3, .int v3), (4, .int v4)] → D_X1_takeCommand_73 N  k39 M v1 v2 v3 v4 s0 = some r → W p l e ({ frames := 4, cells := 0, slots := 0, locals := 111 } : Room) s m args below meth c H locs 0 0 (MQ below (mQ D (wInp a G r.2) (some (.int r.1)) A) args s 0 0 A) (F0 m 73 ls [.int s0])) := by
  have C := C
  obtain ⟨hx, hb, hr, hml, hts, hown, hlocks, hK0⟩ := id C
  have hK := hK0.1
  intro M v1 v2 v3 v4 s0 ls H locs hP hD hS hl hV
  rw [D_X1_takeCommand_73] at hV
  refine lv_istore (lv' := [(5, .int s0), (0, .ref (a 3)), (1, .ref (ks v1)), (2, .int v2), (3, .int v3), (4, .int v4)]) hx hb dX1_takeCommand_73 hl (by decide) rfl (fun ls hl => ?_)
  refine lv_iload hx hb dX1_takeCommand_75 (lv_at hl 0 rfl) ?_
  refine lv_if_eq (tgt := 103) hx hb dX1_takeCommand_77 (by decide) (fun c8 => ?_) (fun c8 => ?_)
  · have hV := jT1 hV c8
    refine lv_aload_n hx hb dX1_takeCommand_103 rfl (lv_at hl 1 rfl) ?_
    refine lv_iload hx hb dX1_takeCommand_104 (lv_at hl 5 rfl) ?_
    obtain ⟨r4, hr4, hV⟩ := jBind hV
    refine jVmI C dX1_takeCommand_106 (k_X1_takeSign l D G a N M v4 r4 hr4) jy_X1_takeSign jq_48_13 jq_48_14 jq_48_15 ⟨rfl, rfl, Nat.le_of_ble_eq_true rfl, Nat.le_of_ble_eq_true rfl⟩ ⟨Nat.le_of_ble_eq_true rfl, Nat.le_of_ble_eq_true rfl⟩ hP hD hA hS (ci := 3) (iw := 0) rfl rfl rfl hl (rest := []) rfl (Nat.le_of_ble_eq_true rfl) (fun H locs hQ hz hkp hS => ?_)
    have hP : va_P D vwCl (wInp a G r4.2) H := hQ
    have hD : va_D A (wInp a G r4.2) := jD (w := (wInp a G M)) rfl hD
    refine lv_if_ne (tgt := 114) hx hb dX1_takeCommand_109 (by decide) (fun c6 => ?_) (fun c6 => ?_)
    · have hV := jF1 hV c6
      refine lv_iload hx hb dX1_takeCommand_114 (lv_at hl 0 rfl) ?_
      refine lv_if_eq (tgt := 122) hx hb dX1_takeCommand_116 (by decide) (fun c5 => ?_) (fun c5 => ?_)
      · have hV := jT1 hV c5
        refine lv_iinc (v := (v3 + 1)) (lv' := [(3, .int (v3 + 1)), (5, .int s0), (0, .ref (a 3)), (1, .ref (ks v1)), (2, .int v2), (4, .int v4)]) hx hb dX1_takeCommand_122 hl (k := 4) rfl rfl (by decide) rfl (fun ls hl => ?_)
        refine lv_goto (tgt := 39) hx hb dX1_takeCommand_125 (by decide) ?_
        exact hk39 r4.2 v1 v2 (v3 + 1) _ _ _ hP hD hS (lv_sub hl [2, 3, 4, 0] rfl) hV
      · have hV := jF1 hV c5
        refine lv_iinc (v := (v2 + 1)) (lv' := [(2, .int (v2 + 1)), (5, .int s0), (0, .ref (a 3)), (1, .ref (ks v1)), (3, .int v3), (4, .int v4)]) hx hb dX1_takeCommand_119 hl (k := 3) rfl rfl (by decide) rfl (fun ls hl => ?_)
        refine lv_iinc (v := (v3 + 1)) (lv' := [(3, .int (v3 + 1)), (2, .int (v2 + 1)), (5, .int s0), (0, .ref (a 3)), (1, .ref (ks v1)), (4, .int v4)]) hx hb dX1_takeCommand_122 hl (k := 4) rfl rfl (by decide) rfl (fun ls hl => ?_)
        refine lv_goto (tgt := 39) hx hb dX1_takeCommand_125 (by decide) ?_
        exact hk39 r4.2 v1 (v2 + 1) (v3 + 1) _ _ _ hP hD hS (lv_sub hl [3, 4, 1, 0] rfl) hV
    · have hV := jT1 hV c6
      refine lv_iconst (v := 0) hx hb dX1_takeCommand_112 (by decide) ?_
      cases hV
      exact mRet C rfl dX1_takeCommand_113 rfl rfl hP hS
  · have hV := jF1 hV c8
    refine lv_aload_n hx hb dX1_takeCommand_80 rfl (lv_at hl 1 rfl) ?_
    refine lv_iload_n hx hb dX1_takeCommand_81 rfl (lv_at hl 3 rfl) ?_
    refine lv_iload hx hb dX1_takeCommand_82 (lv_at hl 5 rfl) ?_
    refine lv_bipush (v := 35) hx hb dX1_takeCommand_84 (by decide) ?_
    refine lv_icmp_ne (tgt := 93) hx hb dX1_takeCommand_86 (by decide) (fun c7 => ?_) (fun c7 => ?_)
    · have hV := jF1 hV c7
      refine lv_iconst (v := 0) hx hb dX1_takeCommand_93 (by decide) ?_
      exact B_X1_takeCommand_94 C hA ks va hZ N a r k39 hk39 M v1 v2 v3 s0 (0 : Int32) v2 _ _ _ hP hD hS (lv_sub hl [1, 2, 3, 4, 0] rfl) hV
    · have hV := jT1 hV c7
      refine lv_iconst (v := 1) hx hb dX1_takeCommand_89 (by decide) ?_
      refine lv_goto (tgt := 94) hx hb dX1_takeCommand_90 (by decide) ?_
      exact B_X1_takeCommand_94 C hA ks va hZ N a r k39 hk39 M v1 v2 v3 s0 (1 : Int32) v2 _ _ _ hP hD hS (lv_sub hl [1, 2, 3, 4, 0] rfl) hV
def D_X1_takeCommand_39 (N : Nat)  : Nat → (Nat → Nat → Int32) → Nat → Int32 → Int32 → Option (Int32 × (Nat → Nat → Int32))
  | 0, _, _, _, _ => none
  | n + 1, M, v1, v2, v3 => (if v1 < 6 then (if (tsl v1) ≤ v3 then (some ((1 : Int32), M)) else (if v1 < 6 then (if inb v3 (tsLen.getD v1 0) = true then (if (tsc v1 v3.toNatClampNeg) = (35 : Int32) then (D_X1_takeCommand_73 N  (D_X1_takeCommand_39 N   n) M v1 v2 v3 (tsc v1 v3.toNatClampNeg) (1 : Int32)) else (if (tsc v1 v3.toNatClampNeg) = (49 : Int32) then (D_X1_takeCommand_73 N  (D_X1_takeCommand_39 N   n) M v1 v2 v3 (tsc v1 v3.toNatClampNeg) (1 : Int32)) else (D_X1_takeCommand_73 N  (D_X1_takeCommand_39 N   n) M v1 v2 v3 (tsc v1 v3.toNatClampNeg) (0 : Int32)))) else none) else none)) else none)
set_option maxHeartbeats 4000000 in
set_option maxRecDepth 100000 in
theorem B_X1_takeCommand_39 {p : Program} {l : Launch} {e : Env} {s : State} {m : MethodId} {args : Array Value} {below : List Frame} {meth : Method} {c : Code} {D : va_G} {G : Nat → ClassId} {A : Nat → Prop} (C : Cx p s m args meth c cX1_takeCommand 6 RX1 (some .boolean) D G) (hA : ∀ q : Nat, s.heap.size ≤ q → A q) (ks va : Nat → Nat) (hZ : jZ ks va A s s.heap) (N : Nat) (a : Nat → Nat) (r : (Int32 × (Nat → Nat → Int32))) : (∀ (n : Nat) (M : Nat → Nat → Int32) (v1 : Nat) (v2 : Int32) (v3 : Int32) (ls : Array Slot) (H : Heap) (locs : List Loc), va_P D vwCl (wInp a G M) H → va_D A (wInp a G M) → va_S A s.heap H locs → lv_has ls 6 [(0, .ref (a 3)), (1, .ref (ks v1)), (2, .int v2), (3, .int v3)] → D_X1_takeCommand_39 N   n M v1 v2 v3 = some r → W p l e ({ frames := 4, cells := 0, slots := 0, locals := 111 } : Room) s m args below meth c H locs 0 0 (MQ below (mQ D (wInp a G r.2) (some (.int r.1)) A) args s 0 0 A) (F0 m 39 ls [])) := by
  have C := C
  obtain ⟨hx, hb, hr, hml, hts, hown, hlocks, hK0⟩ := id C
  have hK := hK0.1
  intro n
  induction n with
  | zero =>
    intro M v1 v2 v3 ls H locs hP hD hS hl hV
    rw [D_X1_takeCommand_39] at hV
    cases hV
  | succ n ih =>
    intro M v1 v2 v3 ls H locs hP hD hS hl hV
    rw [D_X1_takeCommand_39] at hV
    refine lv_iload_n hx hb dX1_takeCommand_39 rfl (lv_at hl 3 rfl) ?_
    refine lv_aload_n hx hb dX1_takeCommand_40 rfl (lv_at hl 1 rfl) ?_
    obtain ⟨g9, hV⟩ := jIfP hV
    refine jVzP C dX1_takeCommand_41 g9 (z_J0_length_8abf5 l D G ks va A v1 g9) rfl jy_J0_length_8abf5 jq_46_6 jq_46_7 jq_46_8 ⟨rfl, rfl, Nat.le_of_ble_eq_true rfl, Nat.le_of_ble_eq_true rfl⟩ ⟨Nat.le_of_ble_eq_true rfl, Nat.le_of_ble_eq_true rfl⟩ hZ hS hl (rest := [.int v3]) rfl (Nat.le_of_ble_eq_true rfl) ?_
    refine W.eq (g2 := F0 m 44 ls [.int (tsl v1), .int v3]) rfl ?_
    refine lv_icmp_ge (tgt := 128) hx hb dX1_takeCommand_44 (by decide) (fun c14 => ?_) (fun c14 => ?_)
    · have hV := jT1 hV c14
      refine lv_iconst (v := 1) hx hb dX1_takeCommand_128 (by decide) ?_
      cases hV
      exact mRet C rfl dX1_takeCommand_129 rfl rfl hP hS
    · have hV := jF1 hV c14
      refine lv_aload_n hx hb dX1_takeCommand_47 rfl (lv_at hl 1 rfl) ?_
      refine lv_iload_n hx hb dX1_takeCommand_48 rfl (lv_at hl 3 rfl) ?_
      obtain ⟨g10, hV⟩ := jIfP hV
      obtain ⟨g11, hV⟩ := jIf hV
      refine jVzP C dX1_takeCommand_49 g10 (z_charAt l D G ks va A v1 g10 v3 g11) rfl jy_J0_charAt_5068e jq_46_16 jq_46_17 jq_46_18 ⟨rfl, rfl, Nat.le_of_ble_eq_true rfl, Nat.le_of_ble_eq_true rfl⟩ ⟨Nat.le_of_ble_eq_true rfl, Nat.le_of_ble_eq_true rfl⟩ hZ hS hl (rest := []) rfl (Nat.le_of_ble_eq_true rfl) ?_
      refine W.eq (g2 := F0 m 52 ls [.int (tsc v1 v3.toNatClampNeg)]) rfl ?_
      refine lv_istore (lv' := [(4, .int (tsc v1 v3.toNatClampNeg)), (0, .ref (a 3)), (1, .ref (ks v1)), (2, .int v2), (3, .int v3)]) hx hb dX1_takeCommand_52 hl (by decide) rfl (fun ls hl => ?_)
      refine lv_iload hx hb dX1_takeCommand_54 (lv_at hl 0 rfl) ?_
      refine lv_bipush (v := 35) hx hb dX1_takeCommand_56 (by decide) ?_
      refine lv_icmp_eq (tgt := 68) hx hb dX1_takeCommand_58 (by decide) (fun c13 => ?_) (fun c13 => ?_)
      · have hV := jT1 hV c13
        refine lv_iconst (v := 1) hx hb dX1_takeCommand_68 (by decide) ?_
        refine lv_goto (tgt := 73) hx hb dX1_takeCommand_69 (by decide) ?_
        exact B_X1_takeCommand_73 C hA ks va hZ N a r (D_X1_takeCommand_39 N   n) ih M v1 v2 v3 (tsc v1 v3.toNatClampNeg) (1 : Int32) _ _ _ hP hD hS (lv_sub hl [1, 2, 3, 4, 0] rfl) hV
      · have hV := jF1 hV c13
        refine lv_iload hx hb dX1_takeCommand_61 (lv_at hl 0 rfl) ?_
        refine lv_bipush (v := 49) hx hb dX1_takeCommand_63 (by decide) ?_
        refine lv_icmp_ne (tgt := 72) hx hb dX1_takeCommand_65 (by decide) (fun c12 => ?_) (fun c12 => ?_)
        · have hV := jF1 hV c12
          refine lv_iconst (v := 0) hx hb dX1_takeCommand_72 (by decide) ?_
          exact B_X1_takeCommand_73 C hA ks va hZ N a r (D_X1_takeCommand_39 N   n) ih M v1 v2 v3 (tsc v1 v3.toNatClampNeg) (0 : Int32) _ _ _ hP hD hS (lv_sub hl [1, 2, 3, 4, 0] rfl) hV
        · have hV := jT1 hV c12
          refine lv_iconst (v := 1) hx hb dX1_takeCommand_68 (by decide) ?_
          refine lv_goto (tgt := 73) hx hb dX1_takeCommand_69 (by decide) ?_
          exact B_X1_takeCommand_73 C hA ks va hZ N a r (D_X1_takeCommand_39 N   n) ih M v1 v2 v3 (tsc v1 v3.toNatClampNeg) (1 : Int32) _ _ _ hP hD hS (lv_sub hl [1, 2, 3, 4, 0] rfl) hV
def F_X1_takeCommand (N : Nat)  (M : Nat → Nat → Int32) : Option (Int32 × (Nat → Nat → Int32)) := ((F_X1_signHere N M ).bind (fun r15 => (if isC r15 = true then (jlet (stF M 7 r15) (fun M16 => (jlet (fIx (M16 0 7)) (fun i17 => (if i17 < 6 then (if (if tsl i17 = 0 then (1 : Int32) else 0) = 0 then (jlet (stF M16 6 ((M16 0 6) + (1 : Int32))) (fun M20 => (D_X1_takeCommand_39 N   N M20 i17 (0 : Int32) (0 : Int32)))) else (some ((0 : Int32), M16))) else none))))) else none)))
set_option maxHeartbeats 4000000 in
set_option maxRecDepth 100000 in
theorem k_X1_takeCommand (l : Launch) (D : va_G) (G : Nat → ClassId) (a : Nat → Nat) (ks va : Nat → Nat) (N : Nat) (M : Nat → Nat → Int32) (r : (Int32 × (Nat → Nat → Int32))) (hV : F_X1_takeCommand N  M  = some r) : zM l yX1_takeCommand (jws yX1_takeCommand cX1_takeCommand 6 (some .boolean)) ({ frames := 4, cells := 0, slots := 0, locals := 111 } : Room) [.ref (a 3)] D G ks va (wInp a G M) (wInp a G r.2) (some (.int r.1)) := by
  refine zM_of (by decide +kernel) (Nat.le_of_ble_eq_true rfl) (fun p e s m args below meth c ls A C hP hD hA hZ hl => ?_)
  have C : Cx p s m args meth c cX1_takeCommand 6 RX1 (some .boolean) D G := C
  have hS : va_S A s.heap s.heap [] := va_S.rf
  obtain ⟨hx, hb, hr, hml, hts, hown, hlocks, hK0⟩ := id C
  have hK := hK0.1
  have hl : lv_has ls 6 [(0, .ref (a 3))] := hl
  rw [F_X1_takeCommand] at hV
  refine lv_aload_n hx hb dX1_takeCommand_0 rfl (lv_at hl 0 rfl) ?_
  refine lv_aload_n hx hb dX1_takeCommand_1 rfl (lv_at hl 0 rfl) ?_
  obtain ⟨r15, hr15, hV⟩ := jBind hV
  refine jVpI C dX1_takeCommand_2 (k_X1_signHere l D G a N M  r15 hr15) jy_X1_signHere jq_45_17 jq_45_18 jq_45_19 ⟨rfl, rfl, Nat.le_of_ble_eq_true rfl, Nat.le_of_ble_eq_true rfl⟩ ⟨Nat.le_of_ble_eq_true rfl, Nat.le_of_ble_eq_true rfl⟩ hP  (ci := 3) (iw := 0) rfl rfl rfl hl (rest := [.ref (a 3)]) rfl (Nat.le_of_ble_eq_true rfl) ?_
  obtain ⟨g23, hV⟩ := jIf hV
  refine va_put (D := D) (ci := 3) (v := .int r15) (ty := .char) (C := RX1) (T := TX1) (N := 5) hx hb hts ju_X1 tyX1 tyX1_ok nmX1 hown hK hP hD hS 0 rfl rfl 3 (by decide) (hts _ jq_45_16) (fun _ h9 => h9) rfl (by decide +kernel) (isC_n g23) (isC_f g23) (Nat.le_of_ble_eq_true rfl) dX1_takeCommand_5 (fun H locs hP hD hS => ?_)
  obtain ⟨M16, e24, hV⟩ := jLet hV
  have hP : va_P D vwCl (wInp a G M16) H := by rw [e24]; exact hP
  have hD : va_D A (wInp a G M16) := by rw [e24]; exact hD
  refine lv_aload_n hx hb dX1_takeCommand_8 rfl (lv_at hl 0 rfl) ?_
  refine va_get (D := D) (ci := 3) (v := .int (M16 0 7)) (C := RX1) (T := TX1) (N := 5) hx hb hts ju_X1 hown hK hP 0 rfl rfl 3 (by decide) (hts _ jq_45_16) (fun _ h9 => h9) rfl dX1_takeCommand_9 ?_
  obtain ⟨i17, e18, hV⟩ := jLet hV
  refine jSzP C dX1_takeCommand_12 (z_formOf l D G ks va A (M16 0 7)) jy_X1_formOf jq_45_21 jq_45_22 ⟨rfl, rfl, Nat.le_of_ble_eq_true rfl, Nat.le_of_ble_eq_true rfl⟩ ⟨Nat.le_of_ble_eq_true rfl, Nat.le_of_ble_eq_true rfl⟩ hZ hS hl (rest := []) rfl (Nat.le_of_ble_eq_true rfl) ?_
  refine W.eq (g2 := F0 m 15 ls [.ref (ks (fIx (M16 0 7)))]) rfl ?_
  rw [← e18]
  refine lv_astore_n (lv' := [(1, .ref (ks i17)), (0, .ref (a 3))]) hx hb dX1_takeCommand_15 rfl hl (by decide) rfl (fun ls hl => ?_)
  refine lv_aload_n hx hb dX1_takeCommand_16 rfl (lv_at hl 0 rfl) ?_
  obtain ⟨g19, hV⟩ := jIfP hV
  refine jVzP C dX1_takeCommand_17 g19 (z_J0_isEmpty_aae02 l D G ks va A i17 g19) rfl jy_J0_isEmpty_aae02 jq_46_0 jq_46_1 jq_46_2 ⟨rfl, rfl, Nat.le_of_ble_eq_true rfl, Nat.le_of_ble_eq_true rfl⟩ ⟨Nat.le_of_ble_eq_true rfl, Nat.le_of_ble_eq_true rfl⟩ hZ hS hl (rest := []) rfl (Nat.le_of_ble_eq_true rfl) ?_
  refine W.eq (g2 := F0 m 20 ls [.int (if tsl i17 = 0 then (1 : Int32) else 0)]) rfl ?_
  refine lv_if_eq (tgt := 25) hx hb dX1_takeCommand_20 (by decide) (fun c22 => ?_) (fun c22 => ?_)
  · have hV := jT1 hV c22
    refine lv_aload_n hx hb dX1_takeCommand_25 rfl (lv_at hl 1 rfl) ?_
    refine lv_dup hx hb dX1_takeCommand_26 rfl ?_
    refine va_get (D := D) (ci := 3) (v := .int (M16 0 6)) (C := RX1) (T := TX1) (N := 5) hx hb hts ju_X1 hown hK hP 0 rfl rfl 2 (by decide) (hts _ jq_45_7) (fun _ h9 => h9) rfl dX1_takeCommand_27 ?_
    refine lv_iconst (v := 1) hx hb dX1_takeCommand_30 (by decide) ?_
    refine lv_iadd hx hb dX1_takeCommand_31 ?_
    refine va_put (D := D) (ci := 3) (v := .int ((M16 0 6) + (1 : Int32))) (ty := .int) (C := RX1) (T := TX1) (N := 5) hx hb hts ju_X1 tyX1 tyX1_ok nmX1 hown hK hP hD hS 0 rfl rfl 2 (by decide) (hts _ jq_45_7) (fun _ h9 => h9) rfl (by decide +kernel) rfl rfl (Nat.le_of_ble_eq_true rfl) dX1_takeCommand_32 (fun H locs hP hD hS => ?_)
    obtain ⟨M20, e21, hV⟩ := jLet hV
    have hP : va_P D vwCl (wInp a G M20) H := by rw [e21]; exact hP
    have hD : va_D A (wInp a G M20) := by rw [e21]; exact hD
    refine lv_iconst (v := 0) hx hb dX1_takeCommand_35 (by decide) ?_
    refine lv_istore_n (lv' := [(2, .int (0 : Int32)), (1, .ref (ks i17)), (0, .ref (a 3))]) hx hb dX1_takeCommand_36 rfl hl (by decide) rfl (fun ls hl => ?_)
    refine lv_iconst (v := 0) hx hb dX1_takeCommand_37 (by decide) ?_
    refine lv_istore_n (lv' := [(3, .int (0 : Int32)), (2, .int (0 : Int32)), (1, .ref (ks i17)), (0, .ref (a 3))]) hx hb dX1_takeCommand_38 rfl hl (by decide) rfl (fun ls hl => ?_)
    exact B_X1_takeCommand_39 C hA ks va hZ N a r   N M20 i17 (0 : Int32) (0 : Int32) _ _ _ hP hD hS (lv_sub hl [3, 2, 1, 0] rfl) hV
  · have hV := jF1 hV c22
    refine lv_iconst (v := 0) hx hb dX1_takeCommand_23 (by decide) ?_
    cases hV
    exact mRet C rfl dX1_takeCommand_24 rfl rfl hP hS
theorem jy_X1_findFault : jY yX1_findFault cX1_findFault 2 (some .int) 0 := ⟨by decide +kernel, jq_45_6, jq_2_1⟩
def D_X1_findFault_6 (N : Nat)  : Nat → (Nat → Nat → Int32) → Int32 → Option (Int32 × (Nat → Nat → Int32))
  | 0, _, _ => none
  | n + 1, M, v1 => (if (60 : Int32) ≤ v1 then (some ((M 0 6), M)) else ((F_X1_takeCommand N M ).bind (fun r1 => (if r1.1 = 0 then (some ((r1.2 0 6), r1.2)) else (if (r1.2 0 6) < (r1.2 0 5) then ((F_X1_takeSign N r1.2 (59 : Int32)).bind (fun r2 => (if r2.1 = 0 then (some ((r2.2 0 6), r2.2)) else (D_X1_findFault_6 N   n r2.2 (v1 + 1))))) else (some ((-1 : Int32), r1.2)))))))
set_option maxHeartbeats 4000000 in
set_option maxRecDepth 100000 in
theorem B_X1_findFault_6 {p : Program} {l : Launch} {e : Env} {s : State} {m : MethodId} {args : Array Value} {below : List Frame} {meth : Method} {c : Code} {D : va_G} {G : Nat → ClassId} {A : Nat → Prop} (C : Cx p s m args meth c cX1_findFault 2 RX1 (some .int) D G) (hA : ∀ q : Nat, s.heap.size ≤ q → A q) (ks va : Nat → Nat) (hZ : jZ ks va A s s.heap) (N : Nat) (a : Nat → Nat) (r : (Int32 × (Nat → Nat → Int32))) : (∀ (n : Nat) (M : Nat → Nat → Int32) (v1 : Int32) (ls : Array Slot) (H : Heap) (locs : List Loc), va_P D vwCl (wInp a G M) H → va_D A (wInp a G M) → va_S A s.heap H locs → lv_has ls 2 [(0, .ref (a 3)), (1, .int v1)] → D_X1_findFault_6 N   n M v1 = some r → W p l e ({ frames := 5, cells := 0, slots := 0, locals := 136 } : Room) s m args below meth c H locs 0 0 (MQ below (mQ D (wInp a G r.2) (some (.int r.1)) A) args s 0 0 A) (F0 m 6 ls [])) := by
  have C := C
  obtain ⟨hx, hb, hr, hml, hts, hown, hlocks, hK0⟩ := id C
  have hK := hK0.1
  intro n
  induction n with
  | zero =>
    intro M v1 ls H locs hP hD hS hl hV
    rw [D_X1_findFault_6] at hV
    cases hV
  | succ n ih =>
    intro M v1 ls H locs hP hD hS hl hV
    rw [D_X1_findFault_6] at hV
    refine lv_iload_n hx hb dX1_findFault_6 rfl (lv_at hl 1 rfl) ?_
    refine lv_bipush (v := 60) hx hb dX1_findFault_7 (by decide) ?_
    refine lv_icmp_ge (tgt := 57) hx hb dX1_findFault_9 (by decide) (fun c6 => ?_) (fun c6 => ?_)
    · have hV := jT1 hV c6
      refine lv_aload_n hx hb dX1_findFault_57 rfl (lv_at hl 0 rfl) ?_
      refine va_get (D := D) (ci := 3) (v := .int (M 0 6)) (C := RX1) (T := TX1) (N := 5) hx hb hts ju_X1 hown hK hP 0 rfl rfl 2 (by decide) (hts _ jq_45_7) (fun _ h9 => h9) rfl dX1_findFault_58 ?_
      cases hV
      exact mRet C rfl dX1_findFault_61 rfl rfl hP hS
    · have hV := jF1 hV c6
      refine lv_aload_n hx hb dX1_findFault_12 rfl (lv_at hl 0 rfl) ?_
      obtain ⟨r1, hr1, hV⟩ := jBind hV
      refine jVz C dX1_findFault_13 (k_X1_takeCommand l D G a ks va N M  r1 hr1) jy_X1_takeCommand jq_45_12 jq_45_13 jq_45_14 ⟨rfl, rfl, Nat.le_of_ble_eq_true rfl, Nat.le_of_ble_eq_true rfl⟩ ⟨Nat.le_of_ble_eq_true rfl, Nat.le_of_ble_eq_true rfl⟩ hZ hP hD hA hS (ci := 3) (iw := 0) rfl rfl rfl hl (rest := []) rfl (Nat.le_of_ble_eq_true rfl) (fun H locs hQ hz hkp hS => ?_)
      have hP : va_P D vwCl (wInp a G r1.2) H := hQ
      have hD : va_D A (wInp a G r1.2) := jD (w := (wInp a G M)) rfl hD
      refine W.eq (g2 := F0 m 16 ls [.int r1.1]) rfl ?_
      refine lv_if_ne (tgt := 24) hx hb dX1_findFault_16 (by decide) (fun c5 => ?_) (fun c5 => ?_)
      · have hV := jF1 hV c5
        refine lv_aload_n hx hb dX1_findFault_24 rfl (lv_at hl 0 rfl) ?_
        refine va_get (D := D) (ci := 3) (v := .int (r1.2 0 6)) (C := RX1) (T := TX1) (N := 5) hx hb hts ju_X1 hown hK hP 0 rfl rfl 2 (by decide) (hts _ jq_45_7) (fun _ h9 => h9) rfl dX1_findFault_25 ?_
        refine lv_aload_n hx hb dX1_findFault_28 rfl (lv_at hl 0 rfl) ?_
        refine va_get (D := D) (ci := 3) (v := .int (r1.2 0 5)) (C := RX1) (T := TX1) (N := 5) hx hb hts ju_X1 hown hK hP 0 rfl rfl 1 (by decide) (hts _ jq_44_15) (fun _ h9 => h9) rfl dX1_findFault_29 ?_
        refine lv_icmp_lt (tgt := 37) hx hb dX1_findFault_32 (by decide) (fun c4 => ?_) (fun c4 => ?_)
        · have hV := jT1 hV c4
          refine lv_aload_n hx hb dX1_findFault_37 rfl (lv_at hl 0 rfl) ?_
          refine lv_bipush (v := 59) hx hb dX1_findFault_38 (by decide) ?_
          obtain ⟨r2, hr2, hV⟩ := jBind hV
          refine jVmI C dX1_findFault_40 (k_X1_takeSign l D G a N r1.2 (59 : Int32) r2 hr2) jy_X1_takeSign jq_48_13 jq_48_14 jq_48_15 ⟨rfl, rfl, Nat.le_of_ble_eq_true rfl, Nat.le_of_ble_eq_true rfl⟩ ⟨Nat.le_of_ble_eq_true rfl, Nat.le_of_ble_eq_true rfl⟩ hP hD hA hS (ci := 3) (iw := 0) rfl rfl rfl hl (rest := []) rfl (Nat.le_of_ble_eq_true rfl) (fun H locs hQ hz hkp hS => ?_)
          have hP : va_P D vwCl (wInp a G r2.2) H := hQ
          have hD : va_D A (wInp a G r2.2) := jD (w := (wInp a G r1.2)) rfl hD
          refine lv_if_ne (tgt := 51) hx hb dX1_findFault_43 (by decide) (fun c3 => ?_) (fun c3 => ?_)
          · have hV := jF1 hV c3
            refine lv_iinc (v := (v1 + 1)) (lv' := [(1, .int (v1 + 1)), (0, .ref (a 3))]) hx hb dX1_findFault_51 hl (k := 1) rfl rfl (by decide) rfl (fun ls hl => ?_)
            refine lv_goto (tgt := 6) hx hb dX1_findFault_54 (by decide) ?_
            exact ih r2.2 (v1 + 1) _ _ _ hP hD hS (lv_sub hl [1, 0] rfl) hV
          · have hV := jT1 hV c3
            refine lv_aload_n hx hb dX1_findFault_46 rfl (lv_at hl 0 rfl) ?_
            refine va_get (D := D) (ci := 3) (v := .int (r2.2 0 6)) (C := RX1) (T := TX1) (N := 5) hx hb hts ju_X1 hown hK hP 0 rfl rfl 2 (by decide) (hts _ jq_45_7) (fun _ h9 => h9) rfl dX1_findFault_47 ?_
            cases hV
            exact mRet C rfl dX1_findFault_50 rfl rfl hP hS
        · have hV := jF1 hV c4
          refine lv_iconst (v := -1) hx hb dX1_findFault_35 (by decide) ?_
          cases hV
          exact mRet C rfl dX1_findFault_36 rfl rfl hP hS
      · have hV := jT1 hV c5
        refine lv_aload_n hx hb dX1_findFault_19 rfl (lv_at hl 0 rfl) ?_
        refine va_get (D := D) (ci := 3) (v := .int (r1.2 0 6)) (C := RX1) (T := TX1) (N := 5) hx hb hts ju_X1 hown hK hP 0 rfl rfl 2 (by decide) (hts _ jq_45_7) (fun _ h9 => h9) rfl dX1_findFault_20 ?_
        cases hV
        exact mRet C rfl dX1_findFault_23 rfl rfl hP hS
def F_X1_findFault (N : Nat)  (M : Nat → Nat → Int32) : Option (Int32 × (Nat → Nat → Int32)) := ((F_X1_goToStart N M ).bind (fun r7 => (D_X1_findFault_6 N   N r7 (0 : Int32))))
set_option maxHeartbeats 4000000 in
set_option maxRecDepth 100000 in
theorem k_X1_findFault (l : Launch) (D : va_G) (G : Nat → ClassId) (a : Nat → Nat) (ks va : Nat → Nat) (N : Nat) (M : Nat → Nat → Int32) (r : (Int32 × (Nat → Nat → Int32))) (hV : F_X1_findFault N  M  = some r) : zM l yX1_findFault (jws yX1_findFault cX1_findFault 2 (some .int)) ({ frames := 5, cells := 0, slots := 0, locals := 136 } : Room) [.ref (a 3)] D G ks va (wInp a G M) (wInp a G r.2) (some (.int r.1)) := by
  refine zM_of (by decide +kernel) (Nat.le_of_ble_eq_true rfl) (fun p e s m args below meth c ls A C hP hD hA hZ hl => ?_)
  have C : Cx p s m args meth c cX1_findFault 2 RX1 (some .int) D G := C
  have hS : va_S A s.heap s.heap [] := va_S.rf
  obtain ⟨hx, hb, hr, hml, hts, hown, hlocks, hK0⟩ := id C
  have hK := hK0.1
  have hl : lv_has ls 2 [(0, .ref (a 3))] := hl
  rw [F_X1_findFault] at hV
  refine lv_aload_n hx hb dX1_findFault_0 rfl (lv_at hl 0 rfl) ?_
  obtain ⟨r7, hr7, hV⟩ := jBind hV
  refine jVmV C dX1_findFault_1 (k_X1_goToStart l D G a N M  r7 hr7) jy_X1_goToStart jq_45_8 jq_45_9 jq_45_10 ⟨rfl, rfl, Nat.le_of_ble_eq_true rfl, Nat.le_of_ble_eq_true rfl⟩ ⟨Nat.le_of_ble_eq_true rfl, Nat.le_of_ble_eq_true rfl⟩ hP hD hA hS (ci := 3) (iw := 0) rfl rfl rfl hl (rest := []) rfl (Nat.le_of_ble_eq_true rfl) (fun H locs hQ hz hkp hS => ?_)
  have hP : va_P D vwCl (wInp a G r7) H := hQ
  have hD : va_D A (wInp a G r7) := jD (w := (wInp a G M)) rfl hD
  refine lv_iconst (v := 0) hx hb dX1_findFault_4 (by decide) ?_
  refine lv_istore_n (lv' := [(1, .int (0 : Int32)), (0, .ref (a 3))]) hx hb dX1_findFault_5 rfl hl (by decide) rfl (fun ls hl => ?_)
  exact B_X1_findFault_6 C hA ks va hZ N a r   N r7 (0 : Int32) _ _ _ hP hD hS (lv_sub hl [1, 0] rfl) hV
theorem jy_X1_takeNext : jY yX1_takeNext cX1_takeNext 2 (some .boolean) 0 := ⟨by decide +kernel, jq_49_5, jq_2_1⟩
def F_X1_takeNext (N : Nat)  (M : Nat → Nat → Int32) : Option (Int32 × (Nat → Nat → Int32)) := (if (M 0 6) < (M 0 5) then ((F_X1_takeCommand N M ).bind (fun r1 => ((F_X1_takeSign N r1.2 (59 : Int32)).bind (fun r2 => (if isB r1.1 = true then (some (r1.1, r2.2)) else none))))) else (some ((0 : Int32), M)))
set_option maxHeartbeats 4000000 in
set_option maxRecDepth 100000 in
theorem k_X1_takeNext (l : Launch) (D : va_G) (G : Nat → ClassId) (a : Nat → Nat) (ks va : Nat → Nat) (N : Nat) (M : Nat → Nat → Int32) (r : (Int32 × (Nat → Nat → Int32))) (hV : F_X1_takeNext N  M  = some r) : zM l yX1_takeNext (jws yX1_takeNext cX1_takeNext 2 (some .boolean)) ({ frames := 5, cells := 0, slots := 0, locals := 136 } : Room) [.ref (a 3)] D G ks va (wInp a G M) (wInp a G r.2) (some (.int r.1)) := by
  refine zM_of (by decide +kernel) (Nat.le_of_ble_eq_true rfl) (fun p e s m args below meth c ls A C hP hD hA hZ hl => ?_)
  have C : Cx p s m args meth c cX1_takeNext 2 RX1 (some .boolean) D G := C
  have hS : va_S A s.heap s.heap [] := va_S.rf
  obtain ⟨hx, hb, hr, hml, hts, hown, hlocks, hK0⟩ := id C
  have hK := hK0.1
  have hl : lv_has ls 2 [(0, .ref (a 3))] := hl
  rw [F_X1_takeNext] at hV
  refine lv_aload_n hx hb dX1_takeNext_0 rfl (lv_at hl 0 rfl) ?_
  refine va_get (D := D) (ci := 3) (v := .int (M 0 6)) (C := RX1) (T := TX1) (N := 5) hx hb hts ju_X1 hown hK hP 0 rfl rfl 2 (by decide) (hts _ jq_45_7) (fun _ h9 => h9) rfl dX1_takeNext_1 ?_
  refine lv_aload_n hx hb dX1_takeNext_4 rfl (lv_at hl 0 rfl) ?_
  refine va_get (D := D) (ci := 3) (v := .int (M 0 5)) (C := RX1) (T := TX1) (N := 5) hx hb hts ju_X1 hown hK hP 0 rfl rfl 1 (by decide) (hts _ jq_44_15) (fun _ h9 => h9) rfl dX1_takeNext_5 ?_
  refine lv_icmp_lt (tgt := 13) hx hb dX1_takeNext_8 (by decide) (fun c4 => ?_) (fun c4 => ?_)
  · have hV := jT1 hV c4
    refine lv_aload_n hx hb dX1_takeNext_13 rfl (lv_at hl 0 rfl) ?_
    obtain ⟨r1, hr1, hV⟩ := jBind hV
    refine jVz C dX1_takeNext_14 (k_X1_takeCommand l D G a ks va N M  r1 hr1) jy_X1_takeCommand jq_45_12 jq_45_13 jq_45_14 ⟨rfl, rfl, Nat.le_of_ble_eq_true rfl, Nat.le_of_ble_eq_true rfl⟩ ⟨Nat.le_of_ble_eq_true rfl, Nat.le_of_ble_eq_true rfl⟩ hZ hP hD hA hS (ci := 3) (iw := 0) rfl rfl rfl hl (rest := []) rfl (Nat.le_of_ble_eq_true rfl) (fun H locs hQ hz hkp hS => ?_)
    have hP : va_P D vwCl (wInp a G r1.2) H := hQ
    have hD : va_D A (wInp a G r1.2) := jD (w := (wInp a G M)) rfl hD
    refine W.eq (g2 := F0 m 17 ls [.int r1.1]) rfl ?_
    refine lv_istore_n (lv' := [(1, .int r1.1), (0, .ref (a 3))]) hx hb dX1_takeNext_17 rfl hl (by decide) rfl (fun ls hl => ?_)
    refine lv_aload_n hx hb dX1_takeNext_18 rfl (lv_at hl 1 rfl) ?_
    refine lv_bipush (v := 59) hx hb dX1_takeNext_19 (by decide) ?_
    obtain ⟨r2, hr2, hV⟩ := jBind hV
    refine jVmI C dX1_takeNext_21 (k_X1_takeSign l D G a N r1.2 (59 : Int32) r2 hr2) jy_X1_takeSign jq_48_13 jq_48_14 jq_48_15 ⟨rfl, rfl, Nat.le_of_ble_eq_true rfl, Nat.le_of_ble_eq_true rfl⟩ ⟨Nat.le_of_ble_eq_true rfl, Nat.le_of_ble_eq_true rfl⟩ hP hD hA hS (ci := 3) (iw := 0) rfl rfl rfl hl (rest := []) rfl (Nat.le_of_ble_eq_true rfl) (fun H locs hQ hz hkp hS => ?_)
    have hP : va_P D vwCl (wInp a G r2.2) H := hQ
    have hD : va_D A (wInp a G r2.2) := jD (w := (wInp a G r1.2)) rfl hD
    refine lv_pop hx hb dX1_takeNext_24 rfl ?_
    refine lv_iload_n hx hb dX1_takeNext_25 rfl (lv_at hl 0 rfl) ?_
    obtain ⟨g3, hV⟩ := jIf hV
    cases hV
    exact mRet C rfl dX1_takeNext_26 (isB_n g3) rfl hP hS
  · have hV := jF1 hV c4
    refine lv_iconst (v := 0) hx hb dX1_takeNext_11 (by decide) ?_
    cases hV
    exact mRet C rfl dX1_takeNext_12 rfl rfl hP hS
