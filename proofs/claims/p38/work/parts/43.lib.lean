section NT
variable {p : Program} {l : Launch} {e : Env} {R : Room} {s : State} {m : MethodId} {args : Array Value} {below : List Frame} {meth : Method} {c : Code} {H : Heap} {locs : List Loc} {cells slots mc ms : Nat} {cc : ByteArray} {nL : Nat} {own : String} {ret : Option FieldType} {D : va_G} {G : Nat → ClassId} {pc : Nat} {ls : Array Slot} {A : Nat → Prop} {w' : va_W} {k : Int32}
theorem pRetF (C : Cx p s m args meth c cc nL own ret D G) (ht : ret = some .float) (hdg : decode cc pc = .ok (.freturn, 1)) {v r : UInt32} (hv : v = r) :
    W p l e R s m args below meth c s.heap [] 0 0 (MQ below (QcRd (some (.float r))) args s 0 0 nofree) (F0 m pc ls [.float v]) := by
  obtain ⟨hx, hb, hr, -, -, -, hlocks, -⟩ := C
  subst hv; subst ht
  exact W.fret hx hb hr (fun t ht _ => ⟨rfl, ht⟩) (fun q h => nomatch h) hdg hlocks
theorem pRetD (C : Cx p s m args meth c cc nL own ret D G) (ht : ret = some .double) (hdg : decode cc pc = .ok (.dreturn, 1)) {v r : UInt64} (hv : v = r) :
    W p l e R s m args below meth c s.heap [] 0 0 (MQ below (QcRd (some (.double r))) args s 0 0 nofree) (F0 m pc ls [.double v]) := by
  obtain ⟨hx, hb, hr, -, -, -, hlocks, -⟩ := C
  subst hv; subst ht
  exact W.dret hx hb hr (fun t ht _ => ⟨rfl, ht⟩) (fun q h => nomatch h) hdg hlocks
end NT
set_option maxHeartbeats 4000000 in
theorem kn_X8_checkIndex (l : Launch) (D : va_G) (G : Nat → ClassId) (b : Int32) (h : ckIndex b = 0) : pM l yX8_checkIndex (jws yX8_checkIndex cX8_checkIndex 1 none) ({ frames := 0, cells := 0, slots := 0, locals := 0 } : Room) [.int b] D G [] none := by
  refine pM_of (by decide +kernel) (Nat.le_of_ble_eq_true rfl) (fun p e s m args below meth c ls C hP hl => ?_)
  have C : Cx p s m args meth c cX8_checkIndex 1 RX8 none D G := C
  obtain ⟨hx, hb, hr, hml, hts, hown, hlocks, hK0⟩ := id C
  have hl : lv_has ls 1 [(0, .int b)] := hl
  refine lv_iload_n hx hb dX8_checkIndex_0 rfl (lv_at hl 0 rfl) ?_
  refine lv_if_ne (tgt := 15) hx hb dX8_checkIndex_1 (by decide) (fun h0 => ?_) (fun h0 => ?_)
  · exact pRetV C dX8_checkIndex_15
  · exact absurd h (by unfold ckIndex; rw [if_pos h0]; decide)
set_option maxHeartbeats 4000000 in
theorem kn_X8_checkArgument (l : Launch) (D : va_G) (G : Nat → ClassId) (b : Int32) (h : ckArgument b = 0) : pM l yX8_checkArgument (jws yX8_checkArgument cX8_checkArgument 1 none) ({ frames := 0, cells := 0, slots := 0, locals := 0 } : Room) [.int b] D G [] none := by
  refine pM_of (by decide +kernel) (Nat.le_of_ble_eq_true rfl) (fun p e s m args below meth c ls C hP hl => ?_)
  have C : Cx p s m args meth c cX8_checkArgument 1 RX8 none D G := C
  obtain ⟨hx, hb, hr, hml, hts, hown, hlocks, hK0⟩ := id C
  have hl : lv_has ls 1 [(0, .int b)] := hl
  refine lv_iload_n hx hb dX8_checkArgument_0 rfl (lv_at hl 0 rfl) ?_
  refine lv_if_ne (tgt := 15) hx hb dX8_checkArgument_1 (by decide) (fun h0 => ?_) (fun h0 => ?_)
  · exact pRetV C dX8_checkArgument_15
  · exact absurd h (by unfold ckArgument; rw [if_pos h0]; decide)
def F_Y8_account (N : Nat)  (M : Nat → Nat → Nat → Int32) (v1 : Int32) : Option Int32 := (if v1 = 0 then (some ((M 0) 0 2)) else (if v1 = 1 then (some ((M 0) 0 3)) else (if v1 = 2 then (some ((M 0) 0 4)) else (if v1 = 3 then (some ((M 0) 0 5)) else (if v1 = 4 then ((F_X6_seatsOfAll N (M 0) (0 : Int32)).bind (fun r8 => (some r8))) else (if v1 = 5 then ((F_X6_seatsOfAll N (M 0) (1 : Int32)).bind (fun r7 => (some r7))) else (if v1 = 6 then ((F_X6_seatsOfAll N (M 0) (2 : Int32)).bind (fun r6 => (some r6))) else (if v1 = 7 then (some ((M 0) 0 0)) else (if v1 = 8 then (some ((M 0) 0 1)) else (if v1 = 9 then ((F_X6_takingsOfAll N (M 0) ).bind (fun r5 => (some r5))) else (if v1 = 10 then (some (rg 3 (M 0 1) (0 : Int32))) else (if v1 = 11 then (some (rg 3 (M 0 1) (1 : Int32))) else (if v1 = 12 then (some (rg 3 (M 0 1) (2 : Int32))) else (if v1 = 13 then (some (M 9 0 5)) else (if v1 = 14 then (some (M 9 0 4)) else none)))))))))))))))
set_option maxHeartbeats 4000000 in
set_option maxRecDepth 100000 in
theorem k_Y8_account (l : Launch) (D : va_G) (G : Nat → ClassId) (B : Nat → Nat → Nat) (N : Nat) (M : Nat → Nat → Nat → Int32) (v1 : Int32) (r : Int32) (hV : F_Y8_account N  M v1 = some r) : pM l yX8_account (jws yX8_account cX8_account 2 (some .int)) ({ frames := 4, cells := 0, slots := 0, locals := 87 } : Room) [.ref (B 9 0), .int v1] D G (wTS B G M) (some (.int r)) := by
  refine pM_of (by decide +kernel) (Nat.le_of_ble_eq_true rfl) (fun p e s m args below meth c ls C hP hl => ?_)
  have C : Cx p s m args meth c cX8_account 2 RX8 (some .int) D G := C
  obtain ⟨hx, hb, hr, hml, hts, hown, hlocks, hK0⟩ := id C
  have hK := hK0.1
  have hl : lv_has ls 2 [(0, .ref (B 9 0)), (1, .int v1)] := hl
  rw [F_Y8_account] at hV
  refine lv_iload_n hx hb dX8_account_0 rfl (lv_at hl 1 rfl) ?_
  by_cases c1_0 : v1 = 0
  · have hV := jT1 hV c1_0
    refine lv_tableIn (tgt := 76) hx hb dX8_account_1 (by rw [c1_0]; decide) (by rw [c1_0]; decide) (by rw [c1_0]; rfl) (by decide) ?_
    refine lv_aload_n hx hb dX8_account_76 rfl (lv_at hl 0 rfl) ?_
    refine va_get (D := D) (ci := 10) (v := .ref (B 0 0)) (C := RX8) (T := TX8) (N := 8) hx hb hts ju_X8 hown hK hP 0 rfl rfl 0 (by decide) (hts _ jq_1_19) (fun _ h9 => h9) rfl dX8_account_77 ?_
    refine va_getN (D := D) (ci := 8) (v := .ref (B 0 36)) (C := RX6) (T := TX6) (N := 7) (host := "TheatreSeasons") hx hb hts ju_X6 hown hK (sTS_0 hP) 0 rfl rfl 3 (by decide) (va_Nw.use rfl (hK0.2 _ jn_32)) (fun _ h9 => h9) rfl dX8_account_80 ?_
    refine va_getN (D := D) (ci := 5) (v := .int ((M 0) 0 2)) (C := RX3) (T := TX3) (N := 6) (host := "TheatreSeasons") hx hb hts ju_X3 hown hK (sX6_X3 (sTS_0 hP)) 0 rfl rfl 0 (by decide) (va_Nw.use rfl (hK0.2 _ jn_1)) (fun _ h9 => h9) rfl dX8_account_83 ?_
    exact pRet C rfl dX8_account_86 rfl (Option.some.inj hV)
  · have hV := jF1 hV c1_0
    by_cases c1_1 : v1 = 1
    · have hV := jT1 hV c1_1
      refine lv_tableIn (tgt := 87) hx hb dX8_account_1 (by rw [c1_1]; decide) (by rw [c1_1]; decide) (by rw [c1_1]; rfl) (by decide) ?_
      refine lv_aload_n hx hb dX8_account_87 rfl (lv_at hl 0 rfl) ?_
      refine va_get (D := D) (ci := 10) (v := .ref (B 0 0)) (C := RX8) (T := TX8) (N := 8) hx hb hts ju_X8 hown hK hP 0 rfl rfl 0 (by decide) (hts _ jq_1_19) (fun _ h9 => h9) rfl dX8_account_88 ?_
      refine va_getN (D := D) (ci := 8) (v := .ref (B 0 37)) (C := RX6) (T := TX6) (N := 7) (host := "TheatreSeasons") hx hb hts ju_X6 hown hK (sTS_0 hP) 0 rfl rfl 4 (by decide) (va_Nw.use rfl (hK0.2 _ jn_33)) (fun _ h9 => h9) rfl dX8_account_91 ?_
      refine va_getN (D := D) (ci := 4) (v := .int ((M 0) 0 3)) (C := RX2) (T := TX2) (N := 7) (host := "TheatreSeasons") hx hb hts ju_X2 hown hK (sX6_X2 (sTS_0 hP)) 0 rfl rfl 0 (by decide) (va_Nw.use rfl (hK0.2 _ jn_10)) (fun _ h9 => h9) rfl dX8_account_94 ?_
      exact pRet C rfl dX8_account_97 rfl (Option.some.inj hV)
    · have hV := jF1 hV c1_1
      by_cases c1_2 : v1 = 2
      · have hV := jT1 hV c1_2
        refine lv_tableIn (tgt := 98) hx hb dX8_account_1 (by rw [c1_2]; decide) (by rw [c1_2]; decide) (by rw [c1_2]; rfl) (by decide) ?_
        refine lv_aload_n hx hb dX8_account_98 rfl (lv_at hl 0 rfl) ?_
        refine va_get (D := D) (ci := 10) (v := .ref (B 0 0)) (C := RX8) (T := TX8) (N := 8) hx hb hts ju_X8 hown hK hP 0 rfl rfl 0 (by decide) (hts _ jq_1_19) (fun _ h9 => h9) rfl dX8_account_99 ?_
        refine va_getN (D := D) (ci := 8) (v := .ref (B 0 38)) (C := RX6) (T := TX6) (N := 7) (host := "TheatreSeasons") hx hb hts ju_X6 hown hK (sTS_0 hP) 0 rfl rfl 5 (by decide) (va_Nw.use rfl (hK0.2 _ jn_34)) (fun _ h9 => h9) rfl dX8_account_102 ?_
        refine va_getN (D := D) (ci := 9) (v := .int ((M 0) 0 4)) (C := RX7) (T := TX7) (N := 3) (host := "TheatreSeasons") hx hb hts ju_X7 hown hK (sX6_X7 (sTS_0 hP)) 0 rfl rfl 0 (by decide) (va_Nw.use rfl (hK0.2 _ jn_21)) (fun _ h9 => h9) rfl dX8_account_105 ?_
        exact pRet C rfl dX8_account_108 rfl (Option.some.inj hV)
      · have hV := jF1 hV c1_2
        by_cases c1_3 : v1 = 3
        · have hV := jT1 hV c1_3
          refine lv_tableIn (tgt := 109) hx hb dX8_account_1 (by rw [c1_3]; decide) (by rw [c1_3]; decide) (by rw [c1_3]; rfl) (by decide) ?_
          refine lv_aload_n hx hb dX8_account_109 rfl (lv_at hl 0 rfl) ?_
          refine va_get (D := D) (ci := 10) (v := .ref (B 0 0)) (C := RX8) (T := TX8) (N := 8) hx hb hts ju_X8 hown hK hP 0 rfl rfl 0 (by decide) (hts _ jq_1_19) (fun _ h9 => h9) rfl dX8_account_110 ?_
          refine va_getN (D := D) (ci := 8) (v := .ref (B 0 39)) (C := RX6) (T := TX6) (N := 7) (host := "TheatreSeasons") hx hb hts ju_X6 hown hK (sTS_0 hP) 0 rfl rfl 6 (by decide) (va_Nw.use rfl (hK0.2 _ jn_35)) (fun _ h9 => h9) rfl dX8_account_113 ?_
          refine va_getN (D := D) (ci := 6) (v := .int ((M 0) 0 5)) (C := RX4) (T := TX4) (N := 4) (host := "TheatreSeasons") hx hb hts ju_X4 hown hK (sX6_X4 (sTS_0 hP)) 0 rfl rfl 0 (by decide) (va_Nw.use rfl (hK0.2 _ jn_26)) (fun _ h9 => h9) rfl dX8_account_116 ?_
          exact pRet C rfl dX8_account_119 rfl (Option.some.inj hV)
        · have hV := jF1 hV c1_3
          by_cases c1_4 : v1 = 4
          · have hV := jT1 hV c1_4
            refine lv_tableIn (tgt := 120) hx hb dX8_account_1 (by rw [c1_4]; decide) (by rw [c1_4]; decide) (by rw [c1_4]; rfl) (by decide) ?_
            refine lv_aload_n hx hb dX8_account_120 rfl (lv_at hl 0 rfl) ?_
            refine va_get (D := D) (ci := 10) (v := .ref (B 0 0)) (C := RX8) (T := TX8) (N := 8) hx hb hts ju_X8 hown hK hP 0 rfl rfl 0 (by decide) (hts _ jq_1_19) (fun _ h9 => h9) rfl dX8_account_121 ?_
            refine lv_iconst (v := 0) hx hb dX8_account_124 (by decide) ?_
            obtain ⟨r8, hr8, hV⟩ := jBind hV
            refine jVpI C dX8_account_125 (k_X6_seatsOfAll l D G (B 0) N (M 0) (0 : Int32) r8 hr8) jy_X6_seatsOfAll jq_6_4 jq_6_5 jq_6_6 ⟨rfl, rfl, Nat.le_of_ble_eq_true rfl, Nat.le_of_ble_eq_true rfl⟩ ⟨Nat.le_of_ble_eq_true rfl, Nat.le_of_ble_eq_true rfl⟩ (sTS_0 hP)  (ci := 8) (iw := 0) rfl rfl rfl hl (rest := []) rfl (Nat.le_of_ble_eq_true rfl) ?_
            exact pRet C rfl dX8_account_128 rfl (Option.some.inj hV)
          · have hV := jF1 hV c1_4
            by_cases c1_5 : v1 = 5
            · have hV := jT1 hV c1_5
              refine lv_tableIn (tgt := 129) hx hb dX8_account_1 (by rw [c1_5]; decide) (by rw [c1_5]; decide) (by rw [c1_5]; rfl) (by decide) ?_
              refine lv_aload_n hx hb dX8_account_129 rfl (lv_at hl 0 rfl) ?_
              refine va_get (D := D) (ci := 10) (v := .ref (B 0 0)) (C := RX8) (T := TX8) (N := 8) hx hb hts ju_X8 hown hK hP 0 rfl rfl 0 (by decide) (hts _ jq_1_19) (fun _ h9 => h9) rfl dX8_account_130 ?_
              refine lv_iconst (v := 1) hx hb dX8_account_133 (by decide) ?_
              obtain ⟨r7, hr7, hV⟩ := jBind hV
              refine jVpI C dX8_account_134 (k_X6_seatsOfAll l D G (B 0) N (M 0) (1 : Int32) r7 hr7) jy_X6_seatsOfAll jq_6_4 jq_6_5 jq_6_6 ⟨rfl, rfl, Nat.le_of_ble_eq_true rfl, Nat.le_of_ble_eq_true rfl⟩ ⟨Nat.le_of_ble_eq_true rfl, Nat.le_of_ble_eq_true rfl⟩ (sTS_0 hP)  (ci := 8) (iw := 0) rfl rfl rfl hl (rest := []) rfl (Nat.le_of_ble_eq_true rfl) ?_
              exact pRet C rfl dX8_account_137 rfl (Option.some.inj hV)
            · have hV := jF1 hV c1_5
              by_cases c1_6 : v1 = 6
              · have hV := jT1 hV c1_6
                refine lv_tableIn (tgt := 138) hx hb dX8_account_1 (by rw [c1_6]; decide) (by rw [c1_6]; decide) (by rw [c1_6]; rfl) (by decide) ?_
                refine lv_aload_n hx hb dX8_account_138 rfl (lv_at hl 0 rfl) ?_
                refine va_get (D := D) (ci := 10) (v := .ref (B 0 0)) (C := RX8) (T := TX8) (N := 8) hx hb hts ju_X8 hown hK hP 0 rfl rfl 0 (by decide) (hts _ jq_1_19) (fun _ h9 => h9) rfl dX8_account_139 ?_
                refine lv_iconst (v := 2) hx hb dX8_account_142 (by decide) ?_
                obtain ⟨r6, hr6, hV⟩ := jBind hV
                refine jVpI C dX8_account_143 (k_X6_seatsOfAll l D G (B 0) N (M 0) (2 : Int32) r6 hr6) jy_X6_seatsOfAll jq_6_4 jq_6_5 jq_6_6 ⟨rfl, rfl, Nat.le_of_ble_eq_true rfl, Nat.le_of_ble_eq_true rfl⟩ ⟨Nat.le_of_ble_eq_true rfl, Nat.le_of_ble_eq_true rfl⟩ (sTS_0 hP)  (ci := 8) (iw := 0) rfl rfl rfl hl (rest := []) rfl (Nat.le_of_ble_eq_true rfl) ?_
                exact pRet C rfl dX8_account_146 rfl (Option.some.inj hV)
              · have hV := jF1 hV c1_6
                by_cases c1_7 : v1 = 7
                · have hV := jT1 hV c1_7
                  refine lv_tableIn (tgt := 147) hx hb dX8_account_1 (by rw [c1_7]; decide) (by rw [c1_7]; decide) (by rw [c1_7]; rfl) (by decide) ?_
                  refine lv_aload_n hx hb dX8_account_147 rfl (lv_at hl 0 rfl) ?_
                  refine va_get (D := D) (ci := 10) (v := .ref (B 0 0)) (C := RX8) (T := TX8) (N := 8) hx hb hts ju_X8 hown hK hP 0 rfl rfl 0 (by decide) (hts _ jq_1_19) (fun _ h9 => h9) rfl dX8_account_148 ?_
                  refine va_getN (D := D) (ci := 8) (v := .int ((M 0) 0 0)) (C := RX6) (T := TX6) (N := 7) (host := "TheatreSeasons") hx hb hts ju_X6 hown hK (sTS_0 hP) 0 rfl rfl 1 (by decide) (va_Nw.use rfl (hK0.2 _ jn_30)) (fun _ h9 => h9) rfl dX8_account_151 ?_
                  exact pRet C rfl dX8_account_154 rfl (Option.some.inj hV)
                · have hV := jF1 hV c1_7
                  by_cases c1_8 : v1 = 8
                  · have hV := jT1 hV c1_8
                    refine lv_tableIn (tgt := 155) hx hb dX8_account_1 (by rw [c1_8]; decide) (by rw [c1_8]; decide) (by rw [c1_8]; rfl) (by decide) ?_
                    refine lv_aload_n hx hb dX8_account_155 rfl (lv_at hl 0 rfl) ?_
                    refine va_get (D := D) (ci := 10) (v := .ref (B 0 0)) (C := RX8) (T := TX8) (N := 8) hx hb hts ju_X8 hown hK hP 0 rfl rfl 0 (by decide) (hts _ jq_1_19) (fun _ h9 => h9) rfl dX8_account_156 ?_
                    refine va_getN (D := D) (ci := 8) (v := .int ((M 0) 0 1)) (C := RX6) (T := TX6) (N := 7) (host := "TheatreSeasons") hx hb hts ju_X6 hown hK (sTS_0 hP) 0 rfl rfl 2 (by decide) (va_Nw.use rfl (hK0.2 _ jn_31)) (fun _ h9 => h9) rfl dX8_account_159 ?_
                    exact pRet C rfl dX8_account_162 rfl (Option.some.inj hV)
                  · have hV := jF1 hV c1_8
                    by_cases c1_9 : v1 = 9
                    · have hV := jT1 hV c1_9
                      refine lv_tableIn (tgt := 163) hx hb dX8_account_1 (by rw [c1_9]; decide) (by rw [c1_9]; decide) (by rw [c1_9]; rfl) (by decide) ?_
                      refine lv_aload_n hx hb dX8_account_163 rfl (lv_at hl 0 rfl) ?_
                      refine va_get (D := D) (ci := 10) (v := .ref (B 0 0)) (C := RX8) (T := TX8) (N := 8) hx hb hts ju_X8 hown hK hP 0 rfl rfl 0 (by decide) (hts _ jq_1_19) (fun _ h9 => h9) rfl dX8_account_164 ?_
                      obtain ⟨r5, hr5, hV⟩ := jBind hV
                      refine jVpI C dX8_account_167 (k_X6_takingsOfAll l D G (B 0) N (M 0)  r5 hr5) jy_X6_takingsOfAll jq_6_21 jq_6_22 jq_6_23 ⟨rfl, rfl, Nat.le_of_ble_eq_true rfl, Nat.le_of_ble_eq_true rfl⟩ ⟨Nat.le_of_ble_eq_true rfl, Nat.le_of_ble_eq_true rfl⟩ (sTS_0 hP)  (ci := 8) (iw := 0) rfl rfl rfl hl (rest := []) rfl (Nat.le_of_ble_eq_true rfl) ?_
                      exact pRet C rfl dX8_account_170 rfl (Option.some.inj hV)
                    · have hV := jF1 hV c1_9
                      by_cases c1_10 : v1 = 10
                      · have hV := jT1 hV c1_10
                        refine lv_tableIn (tgt := 171) hx hb dX8_account_1 (by rw [c1_10]; decide) (by rw [c1_10]; decide) (by rw [c1_10]; rfl) (by decide) ?_
                        refine lv_aload_n hx hb dX8_account_171 rfl (lv_at hl 0 rfl) ?_
                        refine va_get (D := D) (ci := 10) (v := .ref (B 0 0)) (C := RX8) (T := TX8) (N := 8) hx hb hts ju_X8 hown hK hP 0 rfl rfl 0 (by decide) (hts _ jq_1_19) (fun _ h9 => h9) rfl dX8_account_172 ?_
                        refine va_getN (D := D) (ci := 8) (v := .ref (B 0 2)) (C := RX6) (T := TX6) (N := 7) (host := "TheatreSeasons") hx hb hts ju_X6 hown hK (sTS_0 hP) 0 rfl rfl 0 (by decide) (va_Nw.use rfl (hK0.2 _ jn_29)) (fun _ h9 => h9) rfl dX8_account_175 ?_
                        refine lv_iconst (v := 0) hx hb dX8_account_178 (by decide) ?_
                        refine jVpI C dX8_account_179 (kt_X5_get l D G (B 0 2) (B 0 3) 3 (Nat.le_of_ble_eq_true rfl) (M 0 1) (0 : Int32)) jy_X5_get jq_7_5 jq_6_13 jq_6_14 ⟨rfl, rfl, Nat.le_of_ble_eq_true rfl, Nat.le_of_ble_eq_true rfl⟩ ⟨Nat.le_of_ble_eq_true rfl, Nat.le_of_ble_eq_true rfl⟩ (sX6_1 (sTS_0 hP))  (ci := 7) (iw := 0) rfl rfl rfl hl (rest := []) rfl (Nat.le_of_ble_eq_true rfl) ?_
                        exact pRet C rfl dX8_account_182 rfl (Option.some.inj hV)
                      · have hV := jF1 hV c1_10
                        by_cases c1_11 : v1 = 11
                        · have hV := jT1 hV c1_11
                          refine lv_tableIn (tgt := 183) hx hb dX8_account_1 (by rw [c1_11]; decide) (by rw [c1_11]; decide) (by rw [c1_11]; rfl) (by decide) ?_
                          refine lv_aload_n hx hb dX8_account_183 rfl (lv_at hl 0 rfl) ?_
                          refine va_get (D := D) (ci := 10) (v := .ref (B 0 0)) (C := RX8) (T := TX8) (N := 8) hx hb hts ju_X8 hown hK hP 0 rfl rfl 0 (by decide) (hts _ jq_1_19) (fun _ h9 => h9) rfl dX8_account_184 ?_
                          refine va_getN (D := D) (ci := 8) (v := .ref (B 0 2)) (C := RX6) (T := TX6) (N := 7) (host := "TheatreSeasons") hx hb hts ju_X6 hown hK (sTS_0 hP) 0 rfl rfl 0 (by decide) (va_Nw.use rfl (hK0.2 _ jn_29)) (fun _ h9 => h9) rfl dX8_account_187 ?_
                          refine lv_iconst (v := 1) hx hb dX8_account_190 (by decide) ?_
                          refine jVpI C dX8_account_191 (kt_X5_get l D G (B 0 2) (B 0 3) 3 (Nat.le_of_ble_eq_true rfl) (M 0 1) (1 : Int32)) jy_X5_get jq_7_5 jq_6_13 jq_6_14 ⟨rfl, rfl, Nat.le_of_ble_eq_true rfl, Nat.le_of_ble_eq_true rfl⟩ ⟨Nat.le_of_ble_eq_true rfl, Nat.le_of_ble_eq_true rfl⟩ (sX6_1 (sTS_0 hP))  (ci := 7) (iw := 0) rfl rfl rfl hl (rest := []) rfl (Nat.le_of_ble_eq_true rfl) ?_
                          exact pRet C rfl dX8_account_194 rfl (Option.some.inj hV)
                        · have hV := jF1 hV c1_11
                          by_cases c1_12 : v1 = 12
                          · have hV := jT1 hV c1_12
                            refine lv_tableIn (tgt := 195) hx hb dX8_account_1 (by rw [c1_12]; decide) (by rw [c1_12]; decide) (by rw [c1_12]; rfl) (by decide) ?_
                            refine lv_aload_n hx hb dX8_account_195 rfl (lv_at hl 0 rfl) ?_
                            refine va_get (D := D) (ci := 10) (v := .ref (B 0 0)) (C := RX8) (T := TX8) (N := 8) hx hb hts ju_X8 hown hK hP 0 rfl rfl 0 (by decide) (hts _ jq_1_19) (fun _ h9 => h9) rfl dX8_account_196 ?_
                            refine va_getN (D := D) (ci := 8) (v := .ref (B 0 2)) (C := RX6) (T := TX6) (N := 7) (host := "TheatreSeasons") hx hb hts ju_X6 hown hK (sTS_0 hP) 0 rfl rfl 0 (by decide) (va_Nw.use rfl (hK0.2 _ jn_29)) (fun _ h9 => h9) rfl dX8_account_199 ?_
                            refine lv_iconst (v := 2) hx hb dX8_account_202 (by decide) ?_
                            refine jVpI C dX8_account_203 (kt_X5_get l D G (B 0 2) (B 0 3) 3 (Nat.le_of_ble_eq_true rfl) (M 0 1) (2 : Int32)) jy_X5_get jq_7_5 jq_6_13 jq_6_14 ⟨rfl, rfl, Nat.le_of_ble_eq_true rfl, Nat.le_of_ble_eq_true rfl⟩ ⟨Nat.le_of_ble_eq_true rfl, Nat.le_of_ble_eq_true rfl⟩ (sX6_1 (sTS_0 hP))  (ci := 7) (iw := 0) rfl rfl rfl hl (rest := []) rfl (Nat.le_of_ble_eq_true rfl) ?_
                            exact pRet C rfl dX8_account_206 rfl (Option.some.inj hV)
                          · have hV := jF1 hV c1_12
                            by_cases c1_13 : v1 = 13
                            · have hV := jT1 hV c1_13
                              refine lv_tableIn (tgt := 207) hx hb dX8_account_1 (by rw [c1_13]; decide) (by rw [c1_13]; decide) (by rw [c1_13]; rfl) (by decide) ?_
                              refine lv_aload_n hx hb dX8_account_207 rfl (lv_at hl 0 rfl) ?_
                              refine va_get (D := D) (ci := 10) (v := .ref (B 9 3)) (C := RX8) (T := TX8) (N := 8) hx hb hts ju_X8 hown hK hP 0 rfl rfl 3 (by decide) (hts _ jq_2_4) (fun _ h9 => h9) rfl dX8_account_208 ?_
                              refine va_getN (D := D) (ci := 3) (v := .int (M 9 0 5)) (C := RX1) (T := TX1) (N := 5) (host := "TheatreSeasons") hx hb hts ju_X1 hown hK (sTS_I hP) 0 rfl rfl 1 (by decide) (va_Nw.use rfl (hK0.2 _ jn_37)) (fun _ h9 => h9) rfl dX8_account_211 ?_
                              exact pRet C rfl dX8_account_214 rfl (Option.some.inj hV)
                            · have hV := jF1 hV c1_13
                              by_cases c1_14 : v1 = 14
                              · have hV := jT1 hV c1_14
                                refine lv_tableIn (tgt := 215) hx hb dX8_account_1 (by rw [c1_14]; decide) (by rw [c1_14]; decide) (by rw [c1_14]; rfl) (by decide) ?_
                                refine lv_aload_n hx hb dX8_account_215 rfl (lv_at hl 0 rfl) ?_
                                refine va_get (D := D) (ci := 10) (v := .ref (B 9 1)) (C := RX8) (T := TX8) (N := 8) hx hb hts ju_X8 hown hK hP 0 rfl rfl 2 (by decide) (hts _ jq_2_0) (fun _ h9 => h9) rfl dX8_account_216 ?_
                                refine va_getN (D := D) (ci := 2) (v := .int (M 9 0 4)) (C := RX0) (T := TX0) (N := 2) (host := "TheatreSeasons") hx hb hts ju_X0 hown hK hP 1 rfl rfl 1 (by decide) (va_Nw.use rfl (hK0.2 _ jn_36)) (fun _ h9 => h9) rfl dX8_account_219 ?_
                                exact pRet C rfl dX8_account_222 rfl (Option.some.inj hV)
                              · have hV := jF1 hV c1_14
                                refine jTabDef (tgt := 223) hx hb dX8_account_1 (fun k h1 h2 h3 => ?_) (by decide) ?_
                                · rcases (show k = 0 ∨ k = 1 ∨ k = 2 ∨ k = 3 ∨ k = 4 ∨ k = 5 ∨ k = 6 ∨ k = 7 ∨ k = 8 ∨ k = 9 ∨ k = 10 ∨ k = 11 ∨ k = 12 ∨ k = 13 ∨ k = 14 by omega) with rfl | rfl | rfl | rfl | rfl | rfl | rfl | rfl | rfl | rfl | rfl | rfl | rfl | rfl | rfl <;> first | rfl | exact absurd (Int32.toInt_inj.mp (h3.trans (by decide))) c1_0 | exact absurd (Int32.toInt_inj.mp (h3.trans (by decide))) c1_1 | exact absurd (Int32.toInt_inj.mp (h3.trans (by decide))) c1_2 | exact absurd (Int32.toInt_inj.mp (h3.trans (by decide))) c1_3 | exact absurd (Int32.toInt_inj.mp (h3.trans (by decide))) c1_4 | exact absurd (Int32.toInt_inj.mp (h3.trans (by decide))) c1_5 | exact absurd (Int32.toInt_inj.mp (h3.trans (by decide))) c1_6 | exact absurd (Int32.toInt_inj.mp (h3.trans (by decide))) c1_7 | exact absurd (Int32.toInt_inj.mp (h3.trans (by decide))) c1_8 | exact absurd (Int32.toInt_inj.mp (h3.trans (by decide))) c1_9 | exact absurd (Int32.toInt_inj.mp (h3.trans (by decide))) c1_10 | exact absurd (Int32.toInt_inj.mp (h3.trans (by decide))) c1_11 | exact absurd (Int32.toInt_inj.mp (h3.trans (by decide))) c1_12 | exact absurd (Int32.toInt_inj.mp (h3.trans (by decide))) c1_13 | exact absurd (Int32.toInt_inj.mp (h3.trans (by decide))) c1_14
                                · cases hV
def F_Y8_production (N : Nat)  (M : Nat → Nat → Nat → Int32) (v1 v2 : Int32) : Option Int32 := ((F_X3_has N (M 0) v1).bind (fun r1 => (if (ckIndex r1) = 0 then (if v2 = 0 then (some (rg 8 (M 0 2) v1)) else (if v2 = 1 then (some (rg 8 (M 0 3) v1)) else (if v2 = 2 then (some (rg 8 (M 0 4) v1)) else (if v2 = 3 then (some (rg 8 (M 0 5) v1)) else (if v2 = 4 then (some (bcnt (rg 8 (M 0 6) v1))) else (if v2 = 5 then ((F_X8_firstDate N  (rg 8 (M 0 6) v1)).bind (fun r7 => (some r7))) else (if v2 = 6 then ((F_X8_lastDate N  (rg 8 (M 0 6) v1)).bind (fun r6 => (some r6))) else (if v2 = 7 then ((F_X6_takingsOf N (M 0) v1).bind (fun r5 => (some r5))) else none)))))))) else none)))
set_option maxHeartbeats 4000000 in
set_option maxRecDepth 100000 in
theorem k_Y8_production (l : Launch) (D : va_G) (G : Nat → ClassId) (B : Nat → Nat → Nat) (N : Nat) (M : Nat → Nat → Nat → Int32) (v1 v2 : Int32) (r : Int32) (hV : F_Y8_production N  M v1 v2 = some r) : pM l yX8_production (jws yX8_production cX8_production 5 (some .int)) ({ frames := 2, cells := 0, slots := 0, locals := 45 } : Room) [.ref (B 9 0), .int v1, .int v2] D G (wTS B G M) (some (.int r)) := by
  refine pM_of (by decide +kernel) (Nat.le_of_ble_eq_true rfl) (fun p e s m args below meth c ls C hP hl => ?_)
  have C : Cx p s m args meth c cX8_production 5 RX8 (some .int) D G := C
  obtain ⟨hx, hb, hr, hml, hts, hown, hlocks, hK0⟩ := id C
  have hK := hK0.1
  have hl : lv_has ls 5 [(0, .ref (B 9 0)), (1, .int v1), (2, .int v2)] := hl
  rw [F_Y8_production] at hV
  refine lv_aload_n hx hb dX8_production_0 rfl (lv_at hl 0 rfl) ?_
  refine va_get (D := D) (ci := 10) (v := .ref (B 0 0)) (C := RX8) (T := TX8) (N := 8) hx hb hts ju_X8 hown hK hP 0 rfl rfl 0 (by decide) (hts _ jq_1_19) (fun _ h9 => h9) rfl dX8_production_1 ?_
  refine va_getN (D := D) (ci := 8) (v := .ref (B 0 36)) (C := RX6) (T := TX6) (N := 7) (host := "TheatreSeasons") hx hb hts ju_X6 hown hK (sTS_0 hP) 0 rfl rfl 3 (by decide) (va_Nw.use rfl (hK0.2 _ jn_32)) (fun _ h9 => h9) rfl dX8_production_4 ?_
  refine lv_iload_n hx hb dX8_production_7 rfl (lv_at hl 1 rfl) ?_
  obtain ⟨r1, hr1, hV⟩ := jBind hV
  refine jVpI C dX8_production_8 (k_X3_has l D G (B 0) N (M 0) v1 r1 hr1) jy_X3_has jq_20_5 jq_12_21 jq_12_22 ⟨rfl, rfl, Nat.le_of_ble_eq_true rfl, Nat.le_of_ble_eq_true rfl⟩ ⟨Nat.le_of_ble_eq_true rfl, Nat.le_of_ble_eq_true rfl⟩ (sX6_X3 (sTS_0 hP))  (ci := 5) (iw := 0) rfl rfl rfl hl (rest := []) rfl (Nat.le_of_ble_eq_true rfl) ?_
  obtain ⟨g2, hV⟩ := jIfP hV
  refine jSpV C dX8_production_11 (kn_X8_checkIndex l D G r1 g2) jy_X8_checkIndex jq_11_19 jq_11_20 ⟨rfl, rfl, Nat.le_of_ble_eq_true rfl, Nat.le_of_ble_eq_true rfl⟩ ⟨Nat.le_of_ble_eq_true rfl, Nat.le_of_ble_eq_true rfl⟩ jE hl (rest := []) rfl (Nat.le_of_ble_eq_true rfl) ?_
  refine lv_aload_n hx hb dX8_production_14 rfl (lv_at hl 0 rfl) ?_
  refine va_get (D := D) (ci := 10) (v := .ref (B 0 0)) (C := RX8) (T := TX8) (N := 8) hx hb hts ju_X8 hown hK hP 0 rfl rfl 0 (by decide) (hts _ jq_1_19) (fun _ h9 => h9) rfl dX8_production_15 ?_
  refine va_getN (D := D) (ci := 8) (v := .ref (B 0 36)) (C := RX6) (T := TX6) (N := 7) (host := "TheatreSeasons") hx hb hts ju_X6 hown hK (sTS_0 hP) 0 rfl rfl 3 (by decide) (va_Nw.use rfl (hK0.2 _ jn_32)) (fun _ h9 => h9) rfl dX8_production_18 ?_
  refine lv_astore_n (lv' := [(3, .ref (B 0 36)), (0, .ref (B 9 0)), (1, .int v1), (2, .int v2)]) hx hb dX8_production_21 rfl hl (by decide) rfl (fun ls hl => ?_)
  refine lv_aload_n hx hb dX8_production_22 rfl (lv_at hl 0 rfl) ?_
  refine va_getN (D := D) (ci := 5) (v := .ref (B 0 12)) (C := RX3) (T := TX3) (N := 6) (host := "TheatreSeasons") hx hb hts ju_X3 hown hK (sX6_X3 (sTS_0 hP)) 0 rfl rfl 5 (by decide) (va_Nw.use rfl (hK0.2 _ jn_7)) (fun _ h9 => h9) rfl dX8_production_23 ?_
  refine lv_iload_n hx hb dX8_production_26 rfl (lv_at hl 2 rfl) ?_
  refine jVpI C dX8_production_27 (kt_X5_get l D G (B 0 12) (B 0 13) 8 (Nat.le_of_ble_eq_true rfl) (M 0 6) v1) jy_X5_get jq_7_5 jq_6_13 jq_6_14 ⟨rfl, rfl, Nat.le_of_ble_eq_true rfl, Nat.le_of_ble_eq_true rfl⟩ ⟨Nat.le_of_ble_eq_true rfl, Nat.le_of_ble_eq_true rfl⟩ (sX3_6 (sX6_X3 (sTS_0 hP)))  (ci := 7) (iw := 0) rfl rfl rfl hl (rest := []) rfl (Nat.le_of_ble_eq_true rfl) ?_
  refine lv_istore (lv' := [(4, .int (rg 8 (M 0 6) v1)), (3, .ref (B 0 36)), (0, .ref (B 9 0)), (1, .int v1), (2, .int v2)]) hx hb dX8_production_30 hl (by decide) rfl (fun ls hl => ?_)
  refine lv_iload_n hx hb dX8_production_32 rfl (lv_at hl 4 rfl) ?_
  by_cases c4_0 : v2 = 0
  · have hV := jT1 hV c4_0
    refine lv_tableIn (tgt := 80) hx hb dX8_production_33 (by rw [c4_0]; decide) (by rw [c4_0]; decide) (by rw [c4_0]; rfl) (by decide) ?_
    refine lv_aload_n hx hb dX8_production_80 rfl (lv_at hl 1 rfl) ?_
    refine va_getN (D := D) (ci := 5) (v := .ref (B 0 4)) (C := RX3) (T := TX3) (N := 6) (host := "TheatreSeasons") hx hb hts ju_X3 hown hK (sX6_X3 (sTS_0 hP)) 0 rfl rfl 1 (by decide) (va_Nw.use rfl (hK0.2 _ jn_2)) (fun _ h9 => h9) rfl dX8_production_81 ?_
    refine lv_iload_n hx hb dX8_production_84 rfl (lv_at hl 3 rfl) ?_
    refine jVpI C dX8_production_85 (kt_X5_get l D G (B 0 4) (B 0 5) 8 (Nat.le_of_ble_eq_true rfl) (M 0 2) v1) jy_X5_get jq_7_5 jq_6_13 jq_6_14 ⟨rfl, rfl, Nat.le_of_ble_eq_true rfl, Nat.le_of_ble_eq_true rfl⟩ ⟨Nat.le_of_ble_eq_true rfl, Nat.le_of_ble_eq_true rfl⟩ (sX3_2 (sX6_X3 (sTS_0 hP)))  (ci := 7) (iw := 0) rfl rfl rfl hl (rest := []) rfl (Nat.le_of_ble_eq_true rfl) ?_
    exact pRet C rfl dX8_production_88 rfl (Option.some.inj hV)
  · have hV := jF1 hV c4_0
    by_cases c4_1 : v2 = 1
    · have hV := jT1 hV c4_1
      refine lv_tableIn (tgt := 89) hx hb dX8_production_33 (by rw [c4_1]; decide) (by rw [c4_1]; decide) (by rw [c4_1]; rfl) (by decide) ?_
      refine lv_aload_n hx hb dX8_production_89 rfl (lv_at hl 1 rfl) ?_
      refine va_getN (D := D) (ci := 5) (v := .ref (B 0 6)) (C := RX3) (T := TX3) (N := 6) (host := "TheatreSeasons") hx hb hts ju_X3 hown hK (sX6_X3 (sTS_0 hP)) 0 rfl rfl 2 (by decide) (va_Nw.use rfl (hK0.2 _ jn_3)) (fun _ h9 => h9) rfl dX8_production_90 ?_
      refine lv_iload_n hx hb dX8_production_93 rfl (lv_at hl 3 rfl) ?_
      refine jVpI C dX8_production_94 (kt_X5_get l D G (B 0 6) (B 0 7) 8 (Nat.le_of_ble_eq_true rfl) (M 0 3) v1) jy_X5_get jq_7_5 jq_6_13 jq_6_14 ⟨rfl, rfl, Nat.le_of_ble_eq_true rfl, Nat.le_of_ble_eq_true rfl⟩ ⟨Nat.le_of_ble_eq_true rfl, Nat.le_of_ble_eq_true rfl⟩ (sX3_3 (sX6_X3 (sTS_0 hP)))  (ci := 7) (iw := 0) rfl rfl rfl hl (rest := []) rfl (Nat.le_of_ble_eq_true rfl) ?_
      exact pRet C rfl dX8_production_97 rfl (Option.some.inj hV)
    · have hV := jF1 hV c4_1
      by_cases c4_2 : v2 = 2
      · have hV := jT1 hV c4_2
        refine lv_tableIn (tgt := 98) hx hb dX8_production_33 (by rw [c4_2]; decide) (by rw [c4_2]; decide) (by rw [c4_2]; rfl) (by decide) ?_
        refine lv_aload_n hx hb dX8_production_98 rfl (lv_at hl 1 rfl) ?_
        refine va_getN (D := D) (ci := 5) (v := .ref (B 0 8)) (C := RX3) (T := TX3) (N := 6) (host := "TheatreSeasons") hx hb hts ju_X3 hown hK (sX6_X3 (sTS_0 hP)) 0 rfl rfl 3 (by decide) (va_Nw.use rfl (hK0.2 _ jn_4)) (fun _ h9 => h9) rfl dX8_production_99 ?_
        refine lv_iload_n hx hb dX8_production_102 rfl (lv_at hl 3 rfl) ?_
        refine jVpI C dX8_production_103 (kt_X5_get l D G (B 0 8) (B 0 9) 8 (Nat.le_of_ble_eq_true rfl) (M 0 4) v1) jy_X5_get jq_7_5 jq_6_13 jq_6_14 ⟨rfl, rfl, Nat.le_of_ble_eq_true rfl, Nat.le_of_ble_eq_true rfl⟩ ⟨Nat.le_of_ble_eq_true rfl, Nat.le_of_ble_eq_true rfl⟩ (sX3_4 (sX6_X3 (sTS_0 hP)))  (ci := 7) (iw := 0) rfl rfl rfl hl (rest := []) rfl (Nat.le_of_ble_eq_true rfl) ?_
        exact pRet C rfl dX8_production_106 rfl (Option.some.inj hV)
      · have hV := jF1 hV c4_2
        by_cases c4_3 : v2 = 3
        · have hV := jT1 hV c4_3
          refine lv_tableIn (tgt := 107) hx hb dX8_production_33 (by rw [c4_3]; decide) (by rw [c4_3]; decide) (by rw [c4_3]; rfl) (by decide) ?_
          refine lv_aload_n hx hb dX8_production_107 rfl (lv_at hl 1 rfl) ?_
          refine va_getN (D := D) (ci := 5) (v := .ref (B 0 10)) (C := RX3) (T := TX3) (N := 6) (host := "TheatreSeasons") hx hb hts ju_X3 hown hK (sX6_X3 (sTS_0 hP)) 0 rfl rfl 4 (by decide) (va_Nw.use rfl (hK0.2 _ jn_6)) (fun _ h9 => h9) rfl dX8_production_108 ?_
          refine lv_iload_n hx hb dX8_production_111 rfl (lv_at hl 3 rfl) ?_
          refine jVpI C dX8_production_112 (kt_X5_get l D G (B 0 10) (B 0 11) 8 (Nat.le_of_ble_eq_true rfl) (M 0 5) v1) jy_X5_get jq_7_5 jq_6_13 jq_6_14 ⟨rfl, rfl, Nat.le_of_ble_eq_true rfl, Nat.le_of_ble_eq_true rfl⟩ ⟨Nat.le_of_ble_eq_true rfl, Nat.le_of_ble_eq_true rfl⟩ (sX3_5 (sX6_X3 (sTS_0 hP)))  (ci := 7) (iw := 0) rfl rfl rfl hl (rest := []) rfl (Nat.le_of_ble_eq_true rfl) ?_
          exact pRet C rfl dX8_production_115 rfl (Option.some.inj hV)
        · have hV := jF1 hV c4_3
          by_cases c4_4 : v2 = 4
          · have hV := jT1 hV c4_4
            refine lv_tableIn (tgt := 116) hx hb dX8_production_33 (by rw [c4_4]; decide) (by rw [c4_4]; decide) (by rw [c4_4]; rfl) (by decide) ?_
            refine lv_iload hx hb dX8_production_116 (lv_at hl 0 rfl) ?_
            refine jSpI C dX8_production_118 (kt_bitCount l D G (rg 8 (M 0 6) v1)) jy_J6_bitCount_0f7a4 jq_19_6 jq_17_0 ⟨rfl, rfl, Nat.le_of_ble_eq_true rfl, Nat.le_of_ble_eq_true rfl⟩ ⟨Nat.le_of_ble_eq_true rfl, Nat.le_of_ble_eq_true rfl⟩ jE hl (rest := []) rfl (Nat.le_of_ble_eq_true rfl) ?_
            exact pRet C rfl dX8_production_121 rfl (Option.some.inj hV)
          · have hV := jF1 hV c4_4
            by_cases c4_5 : v2 = 5
            · have hV := jT1 hV c4_5
              refine lv_tableIn (tgt := 122) hx hb dX8_production_33 (by rw [c4_5]; decide) (by rw [c4_5]; decide) (by rw [c4_5]; rfl) (by decide) ?_
              refine lv_iload hx hb dX8_production_122 (lv_at hl 0 rfl) ?_
              obtain ⟨r7, hr7, hV⟩ := jBind hV
              refine jSpI C dX8_production_124 (k_X8_firstDate l D G  N  (rg 8 (M 0 6) v1) r7 hr7) jy_X8_firstDate jq_20_6 jq_20_7 ⟨rfl, rfl, Nat.le_of_ble_eq_true rfl, Nat.le_of_ble_eq_true rfl⟩ ⟨Nat.le_of_ble_eq_true rfl, Nat.le_of_ble_eq_true rfl⟩ jE  hl (rest := []) rfl (Nat.le_of_ble_eq_true rfl) ?_
              exact pRet C rfl dX8_production_127 rfl (Option.some.inj hV)
            · have hV := jF1 hV c4_5
              by_cases c4_6 : v2 = 6
              · have hV := jT1 hV c4_6
                refine lv_tableIn (tgt := 128) hx hb dX8_production_33 (by rw [c4_6]; decide) (by rw [c4_6]; decide) (by rw [c4_6]; rfl) (by decide) ?_
                refine lv_iload hx hb dX8_production_128 (lv_at hl 0 rfl) ?_
                obtain ⟨r6, hr6, hV⟩ := jBind hV
                refine jSpI C dX8_production_130 (k_X8_lastDate l D G  N  (rg 8 (M 0 6) v1) r6 hr6) jy_X8_lastDate jq_20_10 jq_20_11 ⟨rfl, rfl, Nat.le_of_ble_eq_true rfl, Nat.le_of_ble_eq_true rfl⟩ ⟨Nat.le_of_ble_eq_true rfl, Nat.le_of_ble_eq_true rfl⟩ jE  hl (rest := []) rfl (Nat.le_of_ble_eq_true rfl) ?_
                exact pRet C rfl dX8_production_133 rfl (Option.some.inj hV)
              · have hV := jF1 hV c4_6
                by_cases c4_7 : v2 = 7
                · have hV := jT1 hV c4_7
                  refine lv_tableIn (tgt := 134) hx hb dX8_production_33 (by rw [c4_7]; decide) (by rw [c4_7]; decide) (by rw [c4_7]; rfl) (by decide) ?_
                  refine lv_aload_n hx hb dX8_production_134 rfl (lv_at hl 2 rfl) ?_
                  refine va_get (D := D) (ci := 10) (v := .ref (B 0 0)) (C := RX8) (T := TX8) (N := 8) hx hb hts ju_X8 hown hK hP 0 rfl rfl 0 (by decide) (hts _ jq_1_19) (fun _ h9 => h9) rfl dX8_production_135 ?_
                  refine lv_iload_n hx hb dX8_production_138 rfl (lv_at hl 3 rfl) ?_
                  obtain ⟨r5, hr5, hV⟩ := jBind hV
                  refine jVpI C dX8_production_139 (k_X6_takingsOf l D G (B 0) N (M 0) v1 r5 hr5) jy_X6_takingsOf jq_20_13 jq_7_2 jq_7_3 ⟨rfl, rfl, Nat.le_of_ble_eq_true rfl, Nat.le_of_ble_eq_true rfl⟩ ⟨Nat.le_of_ble_eq_true rfl, Nat.le_of_ble_eq_true rfl⟩ (sTS_0 hP)  (ci := 8) (iw := 0) rfl rfl rfl hl (rest := []) rfl (Nat.le_of_ble_eq_true rfl) ?_
                  exact pRet C rfl dX8_production_142 rfl (Option.some.inj hV)
                · have hV := jF1 hV c4_7
                  refine jTabDef (tgt := 143) hx hb dX8_production_33 (fun k h1 h2 h3 => ?_) (by decide) ?_
                  · rcases (show k = 0 ∨ k = 1 ∨ k = 2 ∨ k = 3 ∨ k = 4 ∨ k = 5 ∨ k = 6 ∨ k = 7 by omega) with rfl | rfl | rfl | rfl | rfl | rfl | rfl | rfl <;> first | rfl | exact absurd (Int32.toInt_inj.mp (h3.trans (by decide))) c4_0 | exact absurd (Int32.toInt_inj.mp (h3.trans (by decide))) c4_1 | exact absurd (Int32.toInt_inj.mp (h3.trans (by decide))) c4_2 | exact absurd (Int32.toInt_inj.mp (h3.trans (by decide))) c4_3 | exact absurd (Int32.toInt_inj.mp (h3.trans (by decide))) c4_4 | exact absurd (Int32.toInt_inj.mp (h3.trans (by decide))) c4_5 | exact absurd (Int32.toInt_inj.mp (h3.trans (by decide))) c4_6 | exact absurd (Int32.toInt_inj.mp (h3.trans (by decide))) c4_7
                  · cases hV
def F_Y8_performance (N : Nat)  (M : Nat → Nat → Nat → Int32) (v1 v2 : Int32) : Option Int32 := ((F_X2_has N (M 0) v1).bind (fun r1 => (if (ckIndex r1) = 0 then (if v2 = 0 then (some (rg 24 (M 0 7) v1)) else (if v2 = 1 then (some (rg 24 (M 0 8) v1)) else (if v2 = 2 then (some (rg 24 (M 0 9) v1)) else (if v2 = 3 then ((F_X6_seatsAt N (M 0) v1 (0 : Int32)).bind (fun r8 => (some r8))) else (if v2 = 4 then ((F_X6_seatsAt N (M 0) v1 (1 : Int32)).bind (fun r7 => (some r7))) else (if v2 = 5 then ((F_X6_seatsAt N (M 0) v1 (2 : Int32)).bind (fun r6 => (some r6))) else (if v2 = 6 then ((F_X4_countFor N (M 0) v1).bind (fun r5 => (some r5))) else (if v2 = 7 then (some (rg 24 (M 0 12) v1)) else none)))))))) else none)))
set_option maxHeartbeats 4000000 in
set_option maxRecDepth 100000 in
theorem k_Y8_performance (l : Launch) (D : va_G) (G : Nat → ClassId) (B : Nat → Nat → Nat) (N : Nat) (M : Nat → Nat → Nat → Int32) (v1 v2 : Int32) (r : Int32) (hV : F_Y8_performance N  M v1 v2 = some r) : pM l yX8_performance (jws yX8_performance cX8_performance 4 (some .int)) ({ frames := 3, cells := 0, slots := 0, locals := 64 } : Room) [.ref (B 9 0), .int v1, .int v2] D G (wTS B G M) (some (.int r)) := by
  refine pM_of (by decide +kernel) (Nat.le_of_ble_eq_true rfl) (fun p e s m args below meth c ls C hP hl => ?_)
  have C : Cx p s m args meth c cX8_performance 4 RX8 (some .int) D G := C
  obtain ⟨hx, hb, hr, hml, hts, hown, hlocks, hK0⟩ := id C
  have hK := hK0.1
  have hl : lv_has ls 4 [(0, .ref (B 9 0)), (1, .int v1), (2, .int v2)] := hl
  rw [F_Y8_performance] at hV
  refine lv_aload_n hx hb dX8_performance_0 rfl (lv_at hl 0 rfl) ?_
  refine va_get (D := D) (ci := 10) (v := .ref (B 0 0)) (C := RX8) (T := TX8) (N := 8) hx hb hts ju_X8 hown hK hP 0 rfl rfl 0 (by decide) (hts _ jq_1_19) (fun _ h9 => h9) rfl dX8_performance_1 ?_
  refine va_getN (D := D) (ci := 8) (v := .ref (B 0 37)) (C := RX6) (T := TX6) (N := 7) (host := "TheatreSeasons") hx hb hts ju_X6 hown hK (sTS_0 hP) 0 rfl rfl 4 (by decide) (va_Nw.use rfl (hK0.2 _ jn_33)) (fun _ h9 => h9) rfl dX8_performance_4 ?_
  refine lv_iload_n hx hb dX8_performance_7 rfl (lv_at hl 1 rfl) ?_
  obtain ⟨r1, hr1, hV⟩ := jBind hV
  refine jVpI C dX8_performance_8 (k_X2_has l D G (B 0) N (M 0) v1 r1 hr1) jy_X2_has jq_18_18 jq_13_20 jq_13_21 ⟨rfl, rfl, Nat.le_of_ble_eq_true rfl, Nat.le_of_ble_eq_true rfl⟩ ⟨Nat.le_of_ble_eq_true rfl, Nat.le_of_ble_eq_true rfl⟩ (sX6_X2 (sTS_0 hP))  (ci := 4) (iw := 0) rfl rfl rfl hl (rest := []) rfl (Nat.le_of_ble_eq_true rfl) ?_
  obtain ⟨g2, hV⟩ := jIfP hV
  refine jSpV C dX8_performance_11 (kn_X8_checkIndex l D G r1 g2) jy_X8_checkIndex jq_11_19 jq_11_20 ⟨rfl, rfl, Nat.le_of_ble_eq_true rfl, Nat.le_of_ble_eq_true rfl⟩ ⟨Nat.le_of_ble_eq_true rfl, Nat.le_of_ble_eq_true rfl⟩ jE hl (rest := []) rfl (Nat.le_of_ble_eq_true rfl) ?_
  refine lv_aload_n hx hb dX8_performance_14 rfl (lv_at hl 0 rfl) ?_
  refine va_get (D := D) (ci := 10) (v := .ref (B 0 0)) (C := RX8) (T := TX8) (N := 8) hx hb hts ju_X8 hown hK hP 0 rfl rfl 0 (by decide) (hts _ jq_1_19) (fun _ h9 => h9) rfl dX8_performance_15 ?_
  refine va_getN (D := D) (ci := 8) (v := .ref (B 0 37)) (C := RX6) (T := TX6) (N := 7) (host := "TheatreSeasons") hx hb hts ju_X6 hown hK (sTS_0 hP) 0 rfl rfl 4 (by decide) (va_Nw.use rfl (hK0.2 _ jn_33)) (fun _ h9 => h9) rfl dX8_performance_18 ?_
  refine lv_astore_n (lv' := [(3, .ref (B 0 37)), (0, .ref (B 9 0)), (1, .int v1), (2, .int v2)]) hx hb dX8_performance_21 rfl hl (by decide) rfl (fun ls hl => ?_)
  refine lv_iload_n hx hb dX8_performance_22 rfl (lv_at hl 3 rfl) ?_
  by_cases c3_0 : v2 = 0
  · have hV := jT1 hV c3_0
    refine lv_tableIn (tgt := 68) hx hb dX8_performance_23 (by rw [c3_0]; decide) (by rw [c3_0]; decide) (by rw [c3_0]; rfl) (by decide) ?_
    refine lv_aload_n hx hb dX8_performance_68 rfl (lv_at hl 0 rfl) ?_
    refine va_getN (D := D) (ci := 4) (v := .ref (B 0 14)) (C := RX2) (T := TX2) (N := 7) (host := "TheatreSeasons") hx hb hts ju_X2 hown hK (sX6_X2 (sTS_0 hP)) 0 rfl rfl 1 (by decide) (va_Nw.use rfl (hK0.2 _ jn_11)) (fun _ h9 => h9) rfl dX8_performance_69 ?_
    refine lv_iload_n hx hb dX8_performance_72 rfl (lv_at hl 2 rfl) ?_
    refine jVpI C dX8_performance_73 (kt_X5_get l D G (B 0 14) (B 0 15) 24 (Nat.le_of_ble_eq_true rfl) (M 0 7) v1) jy_X5_get jq_7_5 jq_6_13 jq_6_14 ⟨rfl, rfl, Nat.le_of_ble_eq_true rfl, Nat.le_of_ble_eq_true rfl⟩ ⟨Nat.le_of_ble_eq_true rfl, Nat.le_of_ble_eq_true rfl⟩ (sX2_7 (sX6_X2 (sTS_0 hP)))  (ci := 7) (iw := 0) rfl rfl rfl hl (rest := []) rfl (Nat.le_of_ble_eq_true rfl) ?_
    exact pRet C rfl dX8_performance_76 rfl (Option.some.inj hV)
  · have hV := jF1 hV c3_0
    by_cases c3_1 : v2 = 1
    · have hV := jT1 hV c3_1
      refine lv_tableIn (tgt := 77) hx hb dX8_performance_23 (by rw [c3_1]; decide) (by rw [c3_1]; decide) (by rw [c3_1]; rfl) (by decide) ?_
      refine lv_aload_n hx hb dX8_performance_77 rfl (lv_at hl 0 rfl) ?_
      refine va_getN (D := D) (ci := 4) (v := .ref (B 0 16)) (C := RX2) (T := TX2) (N := 7) (host := "TheatreSeasons") hx hb hts ju_X2 hown hK (sX6_X2 (sTS_0 hP)) 0 rfl rfl 2 (by decide) (va_Nw.use rfl (hK0.2 _ jn_13)) (fun _ h9 => h9) rfl dX8_performance_78 ?_
      refine lv_iload_n hx hb dX8_performance_81 rfl (lv_at hl 2 rfl) ?_
      refine jVpI C dX8_performance_82 (kt_X5_get l D G (B 0 16) (B 0 17) 24 (Nat.le_of_ble_eq_true rfl) (M 0 8) v1) jy_X5_get jq_7_5 jq_6_13 jq_6_14 ⟨rfl, rfl, Nat.le_of_ble_eq_true rfl, Nat.le_of_ble_eq_true rfl⟩ ⟨Nat.le_of_ble_eq_true rfl, Nat.le_of_ble_eq_true rfl⟩ (sX2_8 (sX6_X2 (sTS_0 hP)))  (ci := 7) (iw := 0) rfl rfl rfl hl (rest := []) rfl (Nat.le_of_ble_eq_true rfl) ?_
      exact pRet C rfl dX8_performance_85 rfl (Option.some.inj hV)
    · have hV := jF1 hV c3_1
      by_cases c3_2 : v2 = 2
      · have hV := jT1 hV c3_2
        refine lv_tableIn (tgt := 86) hx hb dX8_performance_23 (by rw [c3_2]; decide) (by rw [c3_2]; decide) (by rw [c3_2]; rfl) (by decide) ?_
        refine lv_aload_n hx hb dX8_performance_86 rfl (lv_at hl 0 rfl) ?_
        refine va_getN (D := D) (ci := 4) (v := .ref (B 0 18)) (C := RX2) (T := TX2) (N := 7) (host := "TheatreSeasons") hx hb hts ju_X2 hown hK (sX6_X2 (sTS_0 hP)) 0 rfl rfl 3 (by decide) (va_Nw.use rfl (hK0.2 _ jn_16)) (fun _ h9 => h9) rfl dX8_performance_87 ?_
        refine lv_iload_n hx hb dX8_performance_90 rfl (lv_at hl 2 rfl) ?_
        refine jVpI C dX8_performance_91 (kt_X5_get l D G (B 0 18) (B 0 19) 24 (Nat.le_of_ble_eq_true rfl) (M 0 9) v1) jy_X5_get jq_7_5 jq_6_13 jq_6_14 ⟨rfl, rfl, Nat.le_of_ble_eq_true rfl, Nat.le_of_ble_eq_true rfl⟩ ⟨Nat.le_of_ble_eq_true rfl, Nat.le_of_ble_eq_true rfl⟩ (sX2_9 (sX6_X2 (sTS_0 hP)))  (ci := 7) (iw := 0) rfl rfl rfl hl (rest := []) rfl (Nat.le_of_ble_eq_true rfl) ?_
        exact pRet C rfl dX8_performance_94 rfl (Option.some.inj hV)
      · have hV := jF1 hV c3_2
        by_cases c3_3 : v2 = 3
        · have hV := jT1 hV c3_3
          refine lv_tableIn (tgt := 95) hx hb dX8_performance_23 (by rw [c3_3]; decide) (by rw [c3_3]; decide) (by rw [c3_3]; rfl) (by decide) ?_
          refine lv_aload_n hx hb dX8_performance_95 rfl (lv_at hl 1 rfl) ?_
          refine va_get (D := D) (ci := 10) (v := .ref (B 0 0)) (C := RX8) (T := TX8) (N := 8) hx hb hts ju_X8 hown hK hP 0 rfl rfl 0 (by decide) (hts _ jq_1_19) (fun _ h9 => h9) rfl dX8_performance_96 ?_
          refine lv_iload_n hx hb dX8_performance_99 rfl (lv_at hl 2 rfl) ?_
          refine lv_iconst (v := 0) hx hb dX8_performance_100 (by decide) ?_
          obtain ⟨r8, hr8, hV⟩ := jBind hV
          refine jVpI C dX8_performance_101 (k_X6_seatsAt l D G (B 0) N (M 0) v1 (0 : Int32) r8 hr8) jy_X6_seatsAt jq_18_19 jq_6_9 jq_6_10 ⟨rfl, rfl, Nat.le_of_ble_eq_true rfl, Nat.le_of_ble_eq_true rfl⟩ ⟨Nat.le_of_ble_eq_true rfl, Nat.le_of_ble_eq_true rfl⟩ (sTS_0 hP)  (ci := 8) (iw := 0) rfl rfl rfl hl (rest := []) rfl (Nat.le_of_ble_eq_true rfl) ?_
          exact pRet C rfl dX8_performance_104 rfl (Option.some.inj hV)
        · have hV := jF1 hV c3_3
          by_cases c3_4 : v2 = 4
          · have hV := jT1 hV c3_4
            refine lv_tableIn (tgt := 105) hx hb dX8_performance_23 (by rw [c3_4]; decide) (by rw [c3_4]; decide) (by rw [c3_4]; rfl) (by decide) ?_
            refine lv_aload_n hx hb dX8_performance_105 rfl (lv_at hl 1 rfl) ?_
            refine va_get (D := D) (ci := 10) (v := .ref (B 0 0)) (C := RX8) (T := TX8) (N := 8) hx hb hts ju_X8 hown hK hP 0 rfl rfl 0 (by decide) (hts _ jq_1_19) (fun _ h9 => h9) rfl dX8_performance_106 ?_
            refine lv_iload_n hx hb dX8_performance_109 rfl (lv_at hl 2 rfl) ?_
            refine lv_iconst (v := 1) hx hb dX8_performance_110 (by decide) ?_
            obtain ⟨r7, hr7, hV⟩ := jBind hV
            refine jVpI C dX8_performance_111 (k_X6_seatsAt l D G (B 0) N (M 0) v1 (1 : Int32) r7 hr7) jy_X6_seatsAt jq_18_19 jq_6_9 jq_6_10 ⟨rfl, rfl, Nat.le_of_ble_eq_true rfl, Nat.le_of_ble_eq_true rfl⟩ ⟨Nat.le_of_ble_eq_true rfl, Nat.le_of_ble_eq_true rfl⟩ (sTS_0 hP)  (ci := 8) (iw := 0) rfl rfl rfl hl (rest := []) rfl (Nat.le_of_ble_eq_true rfl) ?_
            exact pRet C rfl dX8_performance_114 rfl (Option.some.inj hV)
          · have hV := jF1 hV c3_4
            by_cases c3_5 : v2 = 5
            · have hV := jT1 hV c3_5
              refine lv_tableIn (tgt := 115) hx hb dX8_performance_23 (by rw [c3_5]; decide) (by rw [c3_5]; decide) (by rw [c3_5]; rfl) (by decide) ?_
              refine lv_aload_n hx hb dX8_performance_115 rfl (lv_at hl 1 rfl) ?_
              refine va_get (D := D) (ci := 10) (v := .ref (B 0 0)) (C := RX8) (T := TX8) (N := 8) hx hb hts ju_X8 hown hK hP 0 rfl rfl 0 (by decide) (hts _ jq_1_19) (fun _ h9 => h9) rfl dX8_performance_116 ?_
              refine lv_iload_n hx hb dX8_performance_119 rfl (lv_at hl 2 rfl) ?_
              refine lv_iconst (v := 2) hx hb dX8_performance_120 (by decide) ?_
              obtain ⟨r6, hr6, hV⟩ := jBind hV
              refine jVpI C dX8_performance_121 (k_X6_seatsAt l D G (B 0) N (M 0) v1 (2 : Int32) r6 hr6) jy_X6_seatsAt jq_18_19 jq_6_9 jq_6_10 ⟨rfl, rfl, Nat.le_of_ble_eq_true rfl, Nat.le_of_ble_eq_true rfl⟩ ⟨Nat.le_of_ble_eq_true rfl, Nat.le_of_ble_eq_true rfl⟩ (sTS_0 hP)  (ci := 8) (iw := 0) rfl rfl rfl hl (rest := []) rfl (Nat.le_of_ble_eq_true rfl) ?_
              exact pRet C rfl dX8_performance_124 rfl (Option.some.inj hV)
            · have hV := jF1 hV c3_5
              by_cases c3_6 : v2 = 6
              · have hV := jT1 hV c3_6
                refine lv_tableIn (tgt := 125) hx hb dX8_performance_23 (by rw [c3_6]; decide) (by rw [c3_6]; decide) (by rw [c3_6]; rfl) (by decide) ?_
                refine lv_aload_n hx hb dX8_performance_125 rfl (lv_at hl 1 rfl) ?_
                refine va_get (D := D) (ci := 10) (v := .ref (B 0 0)) (C := RX8) (T := TX8) (N := 8) hx hb hts ju_X8 hown hK hP 0 rfl rfl 0 (by decide) (hts _ jq_1_19) (fun _ h9 => h9) rfl dX8_performance_126 ?_
                refine va_getN (D := D) (ci := 8) (v := .ref (B 0 39)) (C := RX6) (T := TX6) (N := 7) (host := "TheatreSeasons") hx hb hts ju_X6 hown hK (sTS_0 hP) 0 rfl rfl 6 (by decide) (va_Nw.use rfl (hK0.2 _ jn_35)) (fun _ h9 => h9) rfl dX8_performance_129 ?_
                refine lv_iload_n hx hb dX8_performance_132 rfl (lv_at hl 2 rfl) ?_
                obtain ⟨r5, hr5, hV⟩ := jBind hV
                refine jVpI C dX8_performance_133 (k_X4_countFor l D G (B 0) N (M 0) v1 r5 hr5) jy_X4_countFor jq_18_20 jq_18_21 jq_18_22 ⟨rfl, rfl, Nat.le_of_ble_eq_true rfl, Nat.le_of_ble_eq_true rfl⟩ ⟨Nat.le_of_ble_eq_true rfl, Nat.le_of_ble_eq_true rfl⟩ (sX6_X4 (sTS_0 hP))  (ci := 6) (iw := 0) rfl rfl rfl hl (rest := []) rfl (Nat.le_of_ble_eq_true rfl) ?_
                exact pRet C rfl dX8_performance_136 rfl (Option.some.inj hV)
              · have hV := jF1 hV c3_6
                by_cases c3_7 : v2 = 7
                · have hV := jT1 hV c3_7
                  refine lv_tableIn (tgt := 137) hx hb dX8_performance_23 (by rw [c3_7]; decide) (by rw [c3_7]; decide) (by rw [c3_7]; rfl) (by decide) ?_
                  refine lv_aload_n hx hb dX8_performance_137 rfl (lv_at hl 0 rfl) ?_
                  refine va_getN (D := D) (ci := 4) (v := .ref (B 0 24)) (C := RX2) (T := TX2) (N := 7) (host := "TheatreSeasons") hx hb hts ju_X2 hown hK (sX6_X2 (sTS_0 hP)) 0 rfl rfl 6 (by decide) (va_Nw.use rfl (hK0.2 _ jn_19)) (fun _ h9 => h9) rfl dX8_performance_138 ?_
                  refine lv_iload_n hx hb dX8_performance_141 rfl (lv_at hl 2 rfl) ?_
                  refine jVpI C dX8_performance_142 (kt_X5_get l D G (B 0 24) (B 0 25) 24 (Nat.le_of_ble_eq_true rfl) (M 0 12) v1) jy_X5_get jq_7_5 jq_6_13 jq_6_14 ⟨rfl, rfl, Nat.le_of_ble_eq_true rfl, Nat.le_of_ble_eq_true rfl⟩ ⟨Nat.le_of_ble_eq_true rfl, Nat.le_of_ble_eq_true rfl⟩ (sX2_12 (sX6_X2 (sTS_0 hP)))  (ci := 7) (iw := 0) rfl rfl rfl hl (rest := []) rfl (Nat.le_of_ble_eq_true rfl) ?_
                  exact pRet C rfl dX8_performance_145 rfl (Option.some.inj hV)
                · have hV := jF1 hV c3_7
                  refine jTabDef (tgt := 146) hx hb dX8_performance_23 (fun k h1 h2 h3 => ?_) (by decide) ?_
                  · rcases (show k = 0 ∨ k = 1 ∨ k = 2 ∨ k = 3 ∨ k = 4 ∨ k = 5 ∨ k = 6 ∨ k = 7 by omega) with rfl | rfl | rfl | rfl | rfl | rfl | rfl | rfl <;> first | rfl | exact absurd (Int32.toInt_inj.mp (h3.trans (by decide))) c3_0 | exact absurd (Int32.toInt_inj.mp (h3.trans (by decide))) c3_1 | exact absurd (Int32.toInt_inj.mp (h3.trans (by decide))) c3_2 | exact absurd (Int32.toInt_inj.mp (h3.trans (by decide))) c3_3 | exact absurd (Int32.toInt_inj.mp (h3.trans (by decide))) c3_4 | exact absurd (Int32.toInt_inj.mp (h3.trans (by decide))) c3_5 | exact absurd (Int32.toInt_inj.mp (h3.trans (by decide))) c3_6 | exact absurd (Int32.toInt_inj.mp (h3.trans (by decide))) c3_7
                  · cases hV
def F_Y8_on (N : Nat)  (M : Nat → Nat → Nat → Int32) (v1 v2 : Int32) : Option Int32 := (if (ckIndex (jIn v1 0 2)) = 0 then (if (ckArgument (jIn v2 0 29)) = 0 then ((F_X2_find N (M 0) v1 v2).bind (fun r5 => (if r5 = (-1 : Int32) then none else (some r5)))) else none) else none)
set_option maxHeartbeats 4000000 in
set_option maxRecDepth 100000 in
theorem k_Y8_on (l : Launch) (D : va_G) (G : Nat → ClassId) (B : Nat → Nat → Nat) (N : Nat) (M : Nat → Nat → Nat → Int32) (v1 v2 : Int32) (r : Int32) (hV : F_Y8_on N  M v1 v2 = some r) : pM l yX8_on (jws yX8_on cX8_on 4 (some .int)) ({ frames := 2, cells := 0, slots := 0, locals := 44 } : Room) [.ref (B 9 0), .int v1, .int v2] D G (wTS B G M) (some (.int r)) := by
  refine pM_of (by decide +kernel) (Nat.le_of_ble_eq_true rfl) (fun p e s m args below meth c ls C hP hl => ?_)
  have C : Cx p s m args meth c cX8_on 4 RX8 (some .int) D G := C
  obtain ⟨hx, hb, hr, hml, hts, hown, hlocks, hK0⟩ := id C
  have hK := hK0.1
  have hl : lv_has ls 4 [(0, .ref (B 9 0)), (1, .int v1), (2, .int v2)] := hl
  rw [F_Y8_on] at hV
  refine lv_iload_n hx hb dX8_on_0 rfl (lv_at hl 1 rfl) ?_
  refine jSpI C dX8_on_1 (kt_X8_isStage l D G    v1) jy_X8_isStage jq_19_11 jq_13_0 ⟨rfl, rfl, Nat.le_of_ble_eq_true rfl, Nat.le_of_ble_eq_true rfl⟩ ⟨Nat.le_of_ble_eq_true rfl, Nat.le_of_ble_eq_true rfl⟩ jE  hl (rest := []) rfl (Nat.le_of_ble_eq_true rfl) ?_
  obtain ⟨g2, hV⟩ := jIfP hV
  refine jSpV C dX8_on_4 (kn_X8_checkIndex l D G (jIn v1 0 2) g2) jy_X8_checkIndex jq_11_19 jq_11_20 ⟨rfl, rfl, Nat.le_of_ble_eq_true rfl, Nat.le_of_ble_eq_true rfl⟩ ⟨Nat.le_of_ble_eq_true rfl, Nat.le_of_ble_eq_true rfl⟩ jE hl (rest := []) rfl (Nat.le_of_ble_eq_true rfl) ?_
  refine lv_iload_n hx hb dX8_on_7 rfl (lv_at hl 2 rfl) ?_
  refine jSpI C dX8_on_8 (kt_X8_isDate l D G    v2) jy_X8_isDate jq_19_12 jq_13_3 ⟨rfl, rfl, Nat.le_of_ble_eq_true rfl, Nat.le_of_ble_eq_true rfl⟩ ⟨Nat.le_of_ble_eq_true rfl, Nat.le_of_ble_eq_true rfl⟩ jE  hl (rest := []) rfl (Nat.le_of_ble_eq_true rfl) ?_
  obtain ⟨g4, hV⟩ := jIfP hV
  refine jSpV C dX8_on_11 (kn_X8_checkArgument l D G (jIn v2 0 29) g4) jy_X8_checkArgument jq_12_0 jq_12_1 ⟨rfl, rfl, Nat.le_of_ble_eq_true rfl, Nat.le_of_ble_eq_true rfl⟩ ⟨Nat.le_of_ble_eq_true rfl, Nat.le_of_ble_eq_true rfl⟩ jE hl (rest := []) rfl (Nat.le_of_ble_eq_true rfl) ?_
  refine lv_aload_n hx hb dX8_on_14 rfl (lv_at hl 0 rfl) ?_
  refine va_get (D := D) (ci := 10) (v := .ref (B 0 0)) (C := RX8) (T := TX8) (N := 8) hx hb hts ju_X8 hown hK hP 0 rfl rfl 0 (by decide) (hts _ jq_1_19) (fun _ h9 => h9) rfl dX8_on_15 ?_
  refine va_getN (D := D) (ci := 8) (v := .ref (B 0 37)) (C := RX6) (T := TX6) (N := 7) (host := "TheatreSeasons") hx hb hts ju_X6 hown hK (sTS_0 hP) 0 rfl rfl 4 (by decide) (va_Nw.use rfl (hK0.2 _ jn_33)) (fun _ h9 => h9) rfl dX8_on_18 ?_
  refine lv_iload_n hx hb dX8_on_21 rfl (lv_at hl 1 rfl) ?_
  refine lv_iload_n hx hb dX8_on_22 rfl (lv_at hl 2 rfl) ?_
  obtain ⟨r5, hr5, hV⟩ := jBind hV
  refine jVpI C dX8_on_23 (k_X2_find l D G (B 0) N (M 0) v1 v2 r5 hr5) jy_X2_find jq_19_13 jq_19_14 jq_19_15 ⟨rfl, rfl, Nat.le_of_ble_eq_true rfl, Nat.le_of_ble_eq_true rfl⟩ ⟨Nat.le_of_ble_eq_true rfl, Nat.le_of_ble_eq_true rfl⟩ (sX6_X2 (sTS_0 hP))  (ci := 4) (iw := 0) rfl rfl rfl hl (rest := []) rfl (Nat.le_of_ble_eq_true rfl) ?_
  refine lv_istore_n (lv' := [(3, .int r5), (0, .ref (B 9 0)), (1, .int v1), (2, .int v2)]) hx hb dX8_on_26 rfl hl (by decide) rfl (fun ls hl => ?_)
  refine lv_iload_n hx hb dX8_on_27 rfl (lv_at hl 0 rfl) ?_
  refine lv_iconst (v := -1) hx hb dX8_on_28 (by decide) ?_
  refine lv_icmp_ne (tgt := 42) hx hb dX8_on_29 (by decide) (fun c6 => ?_) (fun c6 => ?_)
  · have hV := jF1 hV c6
    refine lv_iload_n hx hb dX8_on_42 rfl (lv_at hl 0 rfl) ?_
    exact pRet C rfl dX8_on_43 rfl (Option.some.inj hV)
  · have hV := jT1 hV c6
    cases hV
def F_Y8_load (N : Nat)  (M : Nat → Nat → Nat → Int32) (v1 : Int32) : Option Int32 := (if (ckArgument (jIn v1 0 29)) = 0 then ((F_X3_loadIf N (M 0) v1 (-1 : Int32) (0 : Int32)).bind (fun r3 => (some r3))) else none)
set_option maxHeartbeats 4000000 in
set_option maxRecDepth 100000 in
theorem k_Y8_load (l : Launch) (D : va_G) (G : Nat → ClassId) (B : Nat → Nat → Nat) (N : Nat) (M : Nat → Nat → Nat → Int32) (v1 : Int32) (r : Int32) (hV : F_Y8_load N  M v1 = some r) : pM l yX8_load (jws yX8_load cX8_load 2 (some .int)) ({ frames := 2, cells := 0, slots := 0, locals := 50 } : Room) [.ref (B 9 0), .int v1] D G (wTS B G M) (some (.int r)) := by
  refine pM_of (by decide +kernel) (Nat.le_of_ble_eq_true rfl) (fun p e s m args below meth c ls C hP hl => ?_)
  have C : Cx p s m args meth c cX8_load 2 RX8 (some .int) D G := C
  obtain ⟨hx, hb, hr, hml, hts, hown, hlocks, hK0⟩ := id C
  have hK := hK0.1
  have hl : lv_has ls 2 [(0, .ref (B 9 0)), (1, .int v1)] := hl
  rw [F_Y8_load] at hV
  refine lv_iload_n hx hb dX8_load_0 rfl (lv_at hl 1 rfl) ?_
  refine jSpI C dX8_load_1 (kt_X8_isDate l D G    v1) jy_X8_isDate jq_19_12 jq_13_3 ⟨rfl, rfl, Nat.le_of_ble_eq_true rfl, Nat.le_of_ble_eq_true rfl⟩ ⟨Nat.le_of_ble_eq_true rfl, Nat.le_of_ble_eq_true rfl⟩ jE  hl (rest := []) rfl (Nat.le_of_ble_eq_true rfl) ?_
  obtain ⟨g2, hV⟩ := jIfP hV
  refine jSpV C dX8_load_4 (kn_X8_checkArgument l D G (jIn v1 0 29) g2) jy_X8_checkArgument jq_12_0 jq_12_1 ⟨rfl, rfl, Nat.le_of_ble_eq_true rfl, Nat.le_of_ble_eq_true rfl⟩ ⟨Nat.le_of_ble_eq_true rfl, Nat.le_of_ble_eq_true rfl⟩ jE hl (rest := []) rfl (Nat.le_of_ble_eq_true rfl) ?_
  refine lv_aload_n hx hb dX8_load_7 rfl (lv_at hl 0 rfl) ?_
  refine va_get (D := D) (ci := 10) (v := .ref (B 0 0)) (C := RX8) (T := TX8) (N := 8) hx hb hts ju_X8 hown hK hP 0 rfl rfl 0 (by decide) (hts _ jq_1_19) (fun _ h9 => h9) rfl dX8_load_8 ?_
  refine va_getN (D := D) (ci := 8) (v := .ref (B 0 36)) (C := RX6) (T := TX6) (N := 7) (host := "TheatreSeasons") hx hb hts ju_X6 hown hK (sTS_0 hP) 0 rfl rfl 3 (by decide) (va_Nw.use rfl (hK0.2 _ jn_32)) (fun _ h9 => h9) rfl dX8_load_11 ?_
  refine lv_iload_n hx hb dX8_load_14 rfl (lv_at hl 1 rfl) ?_
  refine lv_iconst (v := -1) hx hb dX8_load_15 (by decide) ?_
  refine lv_iconst (v := 0) hx hb dX8_load_16 (by decide) ?_
  obtain ⟨r3, hr3, hV⟩ := jBind hV
  refine jVpI C dX8_load_17 (k_X3_loadIf l D G (B 0) N (M 0) v1 (-1 : Int32) (0 : Int32) r3 hr3) jy_X3_loadIf jq_20_18 jq_7_16 jq_7_17 ⟨rfl, rfl, Nat.le_of_ble_eq_true rfl, Nat.le_of_ble_eq_true rfl⟩ ⟨Nat.le_of_ble_eq_true rfl, Nat.le_of_ble_eq_true rfl⟩ (sX6_X3 (sTS_0 hP))  (ci := 5) (iw := 0) rfl rfl rfl hl (rest := []) rfl (Nat.le_of_ble_eq_true rfl) ?_
  exact pRet C rfl dX8_load_20 rfl (Option.some.inj hV)
def F_Y8_waiting (N : Nat)  (M : Nat → Nat → Nat → Int32) (v1 v2 v3 : Int32) : Option Int32 := ((F_X2_has N (M 0) v1).bind (fun r1 => (if (ckIndex r1) = 0 then ((F_X4_find N (M 0) v1 v2).bind (fun r3 => (if r3 = (-1 : Int32) then none else (if v3 = 0 then (some (rg 20 (M 0 16) r3)) else (some (rg 20 (M 0 17) r3)))))) else none)))
set_option maxHeartbeats 4000000 in
set_option maxRecDepth 100000 in
theorem k_Y8_waiting (l : Launch) (D : va_G) (G : Nat → ClassId) (B : Nat → Nat → Nat) (N : Nat) (M : Nat → Nat → Nat → Int32) (v1 v2 v3 : Int32) (r : Int32) (hV : F_Y8_waiting N  M v1 v2 v3 = some r) : pM l yX8_waiting (jws yX8_waiting cX8_waiting 5 (some .int)) ({ frames := 2, cells := 0, slots := 0, locals := 45 } : Room) [.ref (B 9 0), .int v1, .int v2, .int v3] D G (wTS B G M) (some (.int r)) := by
  refine pM_of (by decide +kernel) (Nat.le_of_ble_eq_true rfl) (fun p e s m args below meth c ls C hP hl => ?_)
  have C : Cx p s m args meth c cX8_waiting 5 RX8 (some .int) D G := C
  obtain ⟨hx, hb, hr, hml, hts, hown, hlocks, hK0⟩ := id C
  have hK := hK0.1
  have hl : lv_has ls 5 [(0, .ref (B 9 0)), (1, .int v1), (2, .int v2), (3, .int v3)] := hl
  rw [F_Y8_waiting] at hV
  refine lv_aload_n hx hb dX8_waiting_0 rfl (lv_at hl 0 rfl) ?_
  refine va_get (D := D) (ci := 10) (v := .ref (B 0 0)) (C := RX8) (T := TX8) (N := 8) hx hb hts ju_X8 hown hK hP 0 rfl rfl 0 (by decide) (hts _ jq_1_19) (fun _ h9 => h9) rfl dX8_waiting_1 ?_
  refine va_getN (D := D) (ci := 8) (v := .ref (B 0 37)) (C := RX6) (T := TX6) (N := 7) (host := "TheatreSeasons") hx hb hts ju_X6 hown hK (sTS_0 hP) 0 rfl rfl 4 (by decide) (va_Nw.use rfl (hK0.2 _ jn_33)) (fun _ h9 => h9) rfl dX8_waiting_4 ?_
  refine lv_iload_n hx hb dX8_waiting_7 rfl (lv_at hl 1 rfl) ?_
  obtain ⟨r1, hr1, hV⟩ := jBind hV
  refine jVpI C dX8_waiting_8 (k_X2_has l D G (B 0) N (M 0) v1 r1 hr1) jy_X2_has jq_18_18 jq_13_20 jq_13_21 ⟨rfl, rfl, Nat.le_of_ble_eq_true rfl, Nat.le_of_ble_eq_true rfl⟩ ⟨Nat.le_of_ble_eq_true rfl, Nat.le_of_ble_eq_true rfl⟩ (sX6_X2 (sTS_0 hP))  (ci := 4) (iw := 0) rfl rfl rfl hl (rest := []) rfl (Nat.le_of_ble_eq_true rfl) ?_
  obtain ⟨g2, hV⟩ := jIfP hV
  refine jSpV C dX8_waiting_11 (kn_X8_checkIndex l D G r1 g2) jy_X8_checkIndex jq_11_19 jq_11_20 ⟨rfl, rfl, Nat.le_of_ble_eq_true rfl, Nat.le_of_ble_eq_true rfl⟩ ⟨Nat.le_of_ble_eq_true rfl, Nat.le_of_ble_eq_true rfl⟩ jE hl (rest := []) rfl (Nat.le_of_ble_eq_true rfl) ?_
  refine lv_aload_n hx hb dX8_waiting_14 rfl (lv_at hl 0 rfl) ?_
  refine va_get (D := D) (ci := 10) (v := .ref (B 0 0)) (C := RX8) (T := TX8) (N := 8) hx hb hts ju_X8 hown hK hP 0 rfl rfl 0 (by decide) (hts _ jq_1_19) (fun _ h9 => h9) rfl dX8_waiting_15 ?_
  refine va_getN (D := D) (ci := 8) (v := .ref (B 0 39)) (C := RX6) (T := TX6) (N := 7) (host := "TheatreSeasons") hx hb hts ju_X6 hown hK (sTS_0 hP) 0 rfl rfl 6 (by decide) (va_Nw.use rfl (hK0.2 _ jn_35)) (fun _ h9 => h9) rfl dX8_waiting_18 ?_
  refine lv_iload_n hx hb dX8_waiting_21 rfl (lv_at hl 1 rfl) ?_
  refine lv_iload_n hx hb dX8_waiting_22 rfl (lv_at hl 2 rfl) ?_
  obtain ⟨r3, hr3, hV⟩ := jBind hV
  refine jVpI C dX8_waiting_23 (k_X4_find l D G (B 0) N (M 0) v1 v2 r3 hr3) jy_X4_find jq_19_21 jq_19_22 jq_19_23 ⟨rfl, rfl, Nat.le_of_ble_eq_true rfl, Nat.le_of_ble_eq_true rfl⟩ ⟨Nat.le_of_ble_eq_true rfl, Nat.le_of_ble_eq_true rfl⟩ (sX6_X4 (sTS_0 hP))  (ci := 6) (iw := 0) rfl rfl rfl hl (rest := []) rfl (Nat.le_of_ble_eq_true rfl) ?_
  refine lv_istore (lv' := [(4, .int r3), (0, .ref (B 9 0)), (1, .int v1), (2, .int v2), (3, .int v3)]) hx hb dX8_waiting_26 hl (by decide) rfl (fun ls hl => ?_)
  refine lv_iload hx hb dX8_waiting_28 (lv_at hl 0 rfl) ?_
  refine lv_iconst (v := -1) hx hb dX8_waiting_30 (by decide) ?_
  refine lv_icmp_ne (tgt := 44) hx hb dX8_waiting_31 (by decide) (fun c7 => ?_) (fun c7 => ?_)
  · have hV := jF1 hV c7
    refine lv_iload_n hx hb dX8_waiting_44 rfl (lv_at hl 4 rfl) ?_
    refine lv_if_eq (tgt := 66) hx hb dX8_waiting_45 (by decide) (fun c6 => ?_) (fun c6 => ?_)
    · have hV := jT1 hV c6
      refine lv_aload_n hx hb dX8_waiting_66 rfl (lv_at hl 1 rfl) ?_
      refine va_get (D := D) (ci := 10) (v := .ref (B 0 0)) (C := RX8) (T := TX8) (N := 8) hx hb hts ju_X8 hown hK hP 0 rfl rfl 0 (by decide) (hts _ jq_1_19) (fun _ h9 => h9) rfl dX8_waiting_67 ?_
      refine va_getN (D := D) (ci := 8) (v := .ref (B 0 39)) (C := RX6) (T := TX6) (N := 7) (host := "TheatreSeasons") hx hb hts ju_X6 hown hK (sTS_0 hP) 0 rfl rfl 6 (by decide) (va_Nw.use rfl (hK0.2 _ jn_35)) (fun _ h9 => h9) rfl dX8_waiting_70 ?_
      refine va_getN (D := D) (ci := 6) (v := .ref (B 0 32)) (C := RX4) (T := TX4) (N := 4) (host := "TheatreSeasons") hx hb hts ju_X4 hown hK (sX6_X4 (sTS_0 hP)) 0 rfl rfl 2 (by decide) (va_Nw.use rfl (hK0.2 _ jn_27)) (fun _ h9 => h9) rfl dX8_waiting_73 ?_
      refine lv_iload hx hb dX8_waiting_76 (lv_at hl 0 rfl) ?_
      refine jVpI C dX8_waiting_78 (kt_X5_get l D G (B 0 32) (B 0 33) 20 (Nat.le_of_ble_eq_true rfl) (M 0 16) r3) jy_X5_get jq_7_5 jq_6_13 jq_6_14 ⟨rfl, rfl, Nat.le_of_ble_eq_true rfl, Nat.le_of_ble_eq_true rfl⟩ ⟨Nat.le_of_ble_eq_true rfl, Nat.le_of_ble_eq_true rfl⟩ (sX4_16 (sX6_X4 (sTS_0 hP)))  (ci := 7) (iw := 0) rfl rfl rfl hl (rest := []) rfl (Nat.le_of_ble_eq_true rfl) ?_
      exact pRet C rfl dX8_waiting_81 rfl (Option.some.inj hV)
    · have hV := jF1 hV c6
      refine lv_aload_n hx hb dX8_waiting_48 rfl (lv_at hl 1 rfl) ?_
      refine va_get (D := D) (ci := 10) (v := .ref (B 0 0)) (C := RX8) (T := TX8) (N := 8) hx hb hts ju_X8 hown hK hP 0 rfl rfl 0 (by decide) (hts _ jq_1_19) (fun _ h9 => h9) rfl dX8_waiting_49 ?_
      refine va_getN (D := D) (ci := 8) (v := .ref (B 0 39)) (C := RX6) (T := TX6) (N := 7) (host := "TheatreSeasons") hx hb hts ju_X6 hown hK (sTS_0 hP) 0 rfl rfl 6 (by decide) (va_Nw.use rfl (hK0.2 _ jn_35)) (fun _ h9 => h9) rfl dX8_waiting_52 ?_
      refine va_getN (D := D) (ci := 6) (v := .ref (B 0 34)) (C := RX4) (T := TX4) (N := 4) (host := "TheatreSeasons") hx hb hts ju_X4 hown hK (sX6_X4 (sTS_0 hP)) 0 rfl rfl 3 (by decide) (va_Nw.use rfl (hK0.2 _ jn_28)) (fun _ h9 => h9) rfl dX8_waiting_55 ?_
      refine lv_iload hx hb dX8_waiting_58 (lv_at hl 0 rfl) ?_
      refine jVpI C dX8_waiting_60 (kt_X5_get l D G (B 0 34) (B 0 35) 20 (Nat.le_of_ble_eq_true rfl) (M 0 17) r3) jy_X5_get jq_7_5 jq_6_13 jq_6_14 ⟨rfl, rfl, Nat.le_of_ble_eq_true rfl, Nat.le_of_ble_eq_true rfl⟩ ⟨Nat.le_of_ble_eq_true rfl, Nat.le_of_ble_eq_true rfl⟩ (sX4_17 (sX6_X4 (sTS_0 hP)))  (ci := 7) (iw := 0) rfl rfl rfl hl (rest := []) rfl (Nat.le_of_ble_eq_true rfl) ?_
      refine lv_goto (tgt := 81) hx hb dX8_waiting_63 (by decide) ?_
      exact pRet C rfl dX8_waiting_81 rfl (Option.some.inj hV)
  · have hV := jT1 hV c7
    cases hV
def D_Y8_seats_27 (N : Nat)  (M : Nat → Nat → Nat → Int32) : Nat → Int32 → Int32 → Int32 → Int32 → Option Int32
  | 0, _, _, _, _ => none
  | n + 1, v1, v2, v3, v4 => (if ((M 0) 0 3) ≤ v4 then (some v3) else (if (rg 24 (M 0 9) v4) = v1 then ((F_X6_seatsAt N (M 0) v4 v2).bind (fun r2 => (D_Y8_seats_27 N  M  n  v1 v2 (v3 + r2) (v4 + 1)))) else (D_Y8_seats_27 N  M  n  v1 v2 v3 (v4 + 1))))
set_option maxHeartbeats 4000000 in
set_option maxRecDepth 100000 in
theorem B_Y8_seats_27 {p : Program} {l : Launch} {e : Env} {s : State} {m : MethodId} {args : Array Value} {below : List Frame} {meth : Method} {c : Code} {D : va_G} {G : Nat → ClassId} (C : Cx p s m args meth c cX8_seats 5 RX8 (some .int) D G) (N : Nat) (B : Nat → Nat → Nat) (M : Nat → Nat → Nat → Int32) (r : Int32) (hP : va_P D vwCl (wTS B G M) s.heap) : (∀ (n : Nat) (v1 : Int32) (v2 : Int32) (v3 : Int32) (v4 : Int32) (ls : Array Slot), lv_has ls 5 [(0, .ref (B 9 0)), (1, .int v1), (2, .int v2), (3, .int v3), (4, .int v4)] → D_Y8_seats_27 N  M  n v1 v2 v3 v4 = some r → W p l e ({ frames := 3, cells := 0, slots := 0, locals := 64 } : Room) s m args below meth c s.heap [] 0 0 (MQ below (QcRd (some (.int r))) args s 0 0 nofree) (F0 m 27 ls [])) := by
  have C := C
  obtain ⟨hx, hb, hr, hml, hts, hown, hlocks, hK0⟩ := id C
  have hK := hK0.1
  intro n
  induction n with
  | zero =>
    intro v1 v2 v3 v4 ls hl hV
    rw [D_Y8_seats_27] at hV
    cases hV
  | succ n ih =>
    intro v1 v2 v3 v4 ls hl hV
    rw [D_Y8_seats_27] at hV
    refine lv_iload hx hb dX8_seats_27 (lv_at hl 4 rfl) ?_
    refine lv_aload_n hx hb dX8_seats_29 rfl (lv_at hl 0 rfl) ?_
    refine va_get (D := D) (ci := 10) (v := .ref (B 0 0)) (C := RX8) (T := TX8) (N := 8) hx hb hts ju_X8 hown hK hP 0 rfl rfl 0 (by decide) (hts _ jq_1_19) (fun _ h9 => h9) rfl dX8_seats_30 ?_
    refine va_getN (D := D) (ci := 8) (v := .ref (B 0 37)) (C := RX6) (T := TX6) (N := 7) (host := "TheatreSeasons") hx hb hts ju_X6 hown hK (sTS_0 hP) 0 rfl rfl 4 (by decide) (va_Nw.use rfl (hK0.2 _ jn_33)) (fun _ h9 => h9) rfl dX8_seats_33 ?_
    refine va_getN (D := D) (ci := 4) (v := .int ((M 0) 0 3)) (C := RX2) (T := TX2) (N := 7) (host := "TheatreSeasons") hx hb hts ju_X2 hown hK (sX6_X2 (sTS_0 hP)) 0 rfl rfl 0 (by decide) (va_Nw.use rfl (hK0.2 _ jn_10)) (fun _ h9 => h9) rfl dX8_seats_36 ?_
    refine lv_icmp_ge (tgt := 80) hx hb dX8_seats_39 (by decide) (fun c4 => ?_) (fun c4 => ?_)
    · have hV := jT1 hV c4
      refine lv_iload_n hx hb dX8_seats_80 rfl (lv_at hl 3 rfl) ?_
      exact pRet C rfl dX8_seats_81 rfl (Option.some.inj hV)
    · have hV := jF1 hV c4
      refine lv_aload_n hx hb dX8_seats_42 rfl (lv_at hl 0 rfl) ?_
      refine va_get (D := D) (ci := 10) (v := .ref (B 0 0)) (C := RX8) (T := TX8) (N := 8) hx hb hts ju_X8 hown hK hP 0 rfl rfl 0 (by decide) (hts _ jq_1_19) (fun _ h9 => h9) rfl dX8_seats_43 ?_
      refine va_getN (D := D) (ci := 8) (v := .ref (B 0 37)) (C := RX6) (T := TX6) (N := 7) (host := "TheatreSeasons") hx hb hts ju_X6 hown hK (sTS_0 hP) 0 rfl rfl 4 (by decide) (va_Nw.use rfl (hK0.2 _ jn_33)) (fun _ h9 => h9) rfl dX8_seats_46 ?_
      refine va_getN (D := D) (ci := 4) (v := .ref (B 0 18)) (C := RX2) (T := TX2) (N := 7) (host := "TheatreSeasons") hx hb hts ju_X2 hown hK (sX6_X2 (sTS_0 hP)) 0 rfl rfl 3 (by decide) (va_Nw.use rfl (hK0.2 _ jn_16)) (fun _ h9 => h9) rfl dX8_seats_49 ?_
      refine lv_iload hx hb dX8_seats_52 (lv_at hl 4 rfl) ?_
      refine jVpI C dX8_seats_54 (kt_X5_get l D G (B 0 18) (B 0 19) 24 (Nat.le_of_ble_eq_true rfl) (M 0 9) v4) jy_X5_get jq_7_5 jq_6_13 jq_6_14 ⟨rfl, rfl, Nat.le_of_ble_eq_true rfl, Nat.le_of_ble_eq_true rfl⟩ ⟨Nat.le_of_ble_eq_true rfl, Nat.le_of_ble_eq_true rfl⟩ (sX2_9 (sX6_X2 (sTS_0 hP)))  (ci := 7) (iw := 0) rfl rfl rfl hl (rest := []) rfl (Nat.le_of_ble_eq_true rfl) ?_
      refine lv_iload_n hx hb dX8_seats_57 rfl (lv_at hl 1 rfl) ?_
      refine lv_icmp_ne (tgt := 74) hx hb dX8_seats_58 (by decide) (fun c3 => ?_) (fun c3 => ?_)
      · have hV := jF1 hV c3
        refine lv_iinc (v := (v4 + 1)) (lv' := [(4, .int (v4 + 1)), (0, .ref (B 9 0)), (1, .int v1), (2, .int v2), (3, .int v3)]) hx hb dX8_seats_74 hl (k := 4) rfl rfl (by decide) rfl (fun ls hl => ?_)
        refine lv_goto (tgt := 27) hx hb dX8_seats_77 (by decide) ?_
        exact ih  v1 v2 v3 (v4 + 1) _ (lv_sub hl [1, 2, 3, 4, 0] rfl) hV
      · have hV := jT1 hV c3
        refine lv_iload_n hx hb dX8_seats_61 rfl (lv_at hl 3 rfl) ?_
        refine lv_aload_n hx hb dX8_seats_62 rfl (lv_at hl 0 rfl) ?_
        refine va_get (D := D) (ci := 10) (v := .ref (B 0 0)) (C := RX8) (T := TX8) (N := 8) hx hb hts ju_X8 hown hK hP 0 rfl rfl 0 (by decide) (hts _ jq_1_19) (fun _ h9 => h9) rfl dX8_seats_63 ?_
        refine lv_iload hx hb dX8_seats_66 (lv_at hl 4 rfl) ?_
        refine lv_iload_n hx hb dX8_seats_68 rfl (lv_at hl 2 rfl) ?_
        obtain ⟨r2, hr2, hV⟩ := jBind hV
        refine jVpI C dX8_seats_69 (k_X6_seatsAt l D G (B 0) N (M 0) v4 v2 r2 hr2) jy_X6_seatsAt jq_18_19 jq_6_9 jq_6_10 ⟨rfl, rfl, Nat.le_of_ble_eq_true rfl, Nat.le_of_ble_eq_true rfl⟩ ⟨Nat.le_of_ble_eq_true rfl, Nat.le_of_ble_eq_true rfl⟩ (sTS_0 hP)  (ci := 8) (iw := 0) rfl rfl rfl hl (rest := [.int v3]) rfl (Nat.le_of_ble_eq_true rfl) ?_
        refine lv_iadd hx hb dX8_seats_72 ?_
        refine lv_istore_n (lv' := [(3, .int (v3 + r2)), (0, .ref (B 9 0)), (1, .int v1), (2, .int v2), (4, .int v4)]) hx hb dX8_seats_73 rfl hl (by decide) rfl (fun ls hl => ?_)
        refine lv_iinc (v := (v4 + 1)) (lv' := [(4, .int (v4 + 1)), (3, .int (v3 + r2)), (0, .ref (B 9 0)), (1, .int v1), (2, .int v2)]) hx hb dX8_seats_74 hl (k := 4) rfl rfl (by decide) rfl (fun ls hl => ?_)
        refine lv_goto (tgt := 27) hx hb dX8_seats_77 (by decide) ?_
        exact ih  v1 v2 (v3 + r2) (v4 + 1) _ (lv_sub hl [2, 3, 4, 1, 0] rfl) hV
def F_Y8_seats (N : Nat)  (M : Nat → Nat → Nat → Int32) (v1 v2 : Int32) : Option Int32 := (if (jIn v1 0 29) = 0 then (if (ckArgument (0 : Int32)) = 0 then (D_Y8_seats_27 N  M  N  v1 v2 (0 : Int32) (0 : Int32)) else none) else (if (jIn v2 0 2) = 0 then (if (ckArgument (0 : Int32)) = 0 then (D_Y8_seats_27 N  M  N  v1 v2 (0 : Int32) (0 : Int32)) else none) else (if (ckArgument (1 : Int32)) = 0 then (D_Y8_seats_27 N  M  N  v1 v2 (0 : Int32) (0 : Int32)) else none)))
set_option maxHeartbeats 4000000 in
set_option maxRecDepth 100000 in
theorem k_Y8_seats (l : Launch) (D : va_G) (G : Nat → ClassId) (B : Nat → Nat → Nat) (N : Nat) (M : Nat → Nat → Nat → Int32) (v1 v2 : Int32) (r : Int32) (hV : F_Y8_seats N  M v1 v2 = some r) : pM l yX8_seats (jws yX8_seats cX8_seats 5 (some .int)) ({ frames := 3, cells := 0, slots := 0, locals := 64 } : Room) [.ref (B 9 0), .int v1, .int v2] D G (wTS B G M) (some (.int r)) := by
  refine pM_of (by decide +kernel) (Nat.le_of_ble_eq_true rfl) (fun p e s m args below meth c ls C hP hl => ?_)
  have C : Cx p s m args meth c cX8_seats 5 RX8 (some .int) D G := C
  obtain ⟨hx, hb, hr, hml, hts, hown, hlocks, hK0⟩ := id C
  have hK := hK0.1
  have hl : lv_has ls 5 [(0, .ref (B 9 0)), (1, .int v1), (2, .int v2)] := hl
  rw [F_Y8_seats] at hV
  refine lv_iload_n hx hb dX8_seats_0 rfl (lv_at hl 1 rfl) ?_
  refine jSpI C dX8_seats_1 (kt_X8_isDate l D G    v1) jy_X8_isDate jq_19_12 jq_13_3 ⟨rfl, rfl, Nat.le_of_ble_eq_true rfl, Nat.le_of_ble_eq_true rfl⟩ ⟨Nat.le_of_ble_eq_true rfl, Nat.le_of_ble_eq_true rfl⟩ jE  hl (rest := []) rfl (Nat.le_of_ble_eq_true rfl) ?_
  refine lv_if_eq (tgt := 18) hx hb dX8_seats_4 (by decide) (fun c11 => ?_) (fun c11 => ?_)
  · have hV := jT1 hV c11
    refine lv_iconst (v := 0) hx hb dX8_seats_18 (by decide) ?_
    obtain ⟨g6, hV⟩ := jIfP hV
    refine jSpV C dX8_seats_19 (kn_X8_checkArgument l D G (0 : Int32) g6) jy_X8_checkArgument jq_12_0 jq_12_1 ⟨rfl, rfl, Nat.le_of_ble_eq_true rfl, Nat.le_of_ble_eq_true rfl⟩ ⟨Nat.le_of_ble_eq_true rfl, Nat.le_of_ble_eq_true rfl⟩ jE hl (rest := []) rfl (Nat.le_of_ble_eq_true rfl) ?_
    refine lv_iconst (v := 0) hx hb dX8_seats_22 (by decide) ?_
    refine lv_istore_n (lv' := [(3, .int (0 : Int32)), (0, .ref (B 9 0)), (1, .int v1), (2, .int v2)]) hx hb dX8_seats_23 rfl hl (by decide) rfl (fun ls hl => ?_)
    refine lv_iconst (v := 0) hx hb dX8_seats_24 (by decide) ?_
    refine lv_istore (lv' := [(4, .int (0 : Int32)), (3, .int (0 : Int32)), (0, .ref (B 9 0)), (1, .int v1), (2, .int v2)]) hx hb dX8_seats_25 hl (by decide) rfl (fun ls hl => ?_)
    exact B_Y8_seats_27 C  N B M r hP   N  v1 v2 (0 : Int32) (0 : Int32) _ (lv_sub hl [2, 3, 4, 1, 0] rfl) hV
  · have hV := jF1 hV c11
    refine lv_iload_n hx hb dX8_seats_7 rfl (lv_at hl 2 rfl) ?_
    refine jSpI C dX8_seats_8 (kt_X8_isSeatKind l D G    v2) jy_X8_isSeatKind jq_20_23 jq_21_0 ⟨rfl, rfl, Nat.le_of_ble_eq_true rfl, Nat.le_of_ble_eq_true rfl⟩ ⟨Nat.le_of_ble_eq_true rfl, Nat.le_of_ble_eq_true rfl⟩ jE  hl (rest := []) rfl (Nat.le_of_ble_eq_true rfl) ?_
    refine lv_if_eq (tgt := 18) hx hb dX8_seats_11 (by decide) (fun c10 => ?_) (fun c10 => ?_)
    · have hV := jT1 hV c10
      refine lv_iconst (v := 0) hx hb dX8_seats_18 (by decide) ?_
      obtain ⟨g8, hV⟩ := jIfP hV
      refine jSpV C dX8_seats_19 (kn_X8_checkArgument l D G (0 : Int32) g8) jy_X8_checkArgument jq_12_0 jq_12_1 ⟨rfl, rfl, Nat.le_of_ble_eq_true rfl, Nat.le_of_ble_eq_true rfl⟩ ⟨Nat.le_of_ble_eq_true rfl, Nat.le_of_ble_eq_true rfl⟩ jE hl (rest := []) rfl (Nat.le_of_ble_eq_true rfl) ?_
      refine lv_iconst (v := 0) hx hb dX8_seats_22 (by decide) ?_
      refine lv_istore_n (lv' := [(3, .int (0 : Int32)), (0, .ref (B 9 0)), (1, .int v1), (2, .int v2)]) hx hb dX8_seats_23 rfl hl (by decide) rfl (fun ls hl => ?_)
      refine lv_iconst (v := 0) hx hb dX8_seats_24 (by decide) ?_
      refine lv_istore (lv' := [(4, .int (0 : Int32)), (3, .int (0 : Int32)), (0, .ref (B 9 0)), (1, .int v1), (2, .int v2)]) hx hb dX8_seats_25 hl (by decide) rfl (fun ls hl => ?_)
      exact B_Y8_seats_27 C  N B M r hP   N  v1 v2 (0 : Int32) (0 : Int32) _ (lv_sub hl [2, 3, 4, 1, 0] rfl) hV
    · have hV := jF1 hV c10
      refine lv_iconst (v := 1) hx hb dX8_seats_14 (by decide) ?_
      refine lv_goto (tgt := 19) hx hb dX8_seats_15 (by decide) ?_
      obtain ⟨g9, hV⟩ := jIfP hV
      refine jSpV C dX8_seats_19 (kn_X8_checkArgument l D G (1 : Int32) g9) jy_X8_checkArgument jq_12_0 jq_12_1 ⟨rfl, rfl, Nat.le_of_ble_eq_true rfl, Nat.le_of_ble_eq_true rfl⟩ ⟨Nat.le_of_ble_eq_true rfl, Nat.le_of_ble_eq_true rfl⟩ jE hl (rest := []) rfl (Nat.le_of_ble_eq_true rfl) ?_
      refine lv_iconst (v := 0) hx hb dX8_seats_22 (by decide) ?_
      refine lv_istore_n (lv' := [(3, .int (0 : Int32)), (0, .ref (B 9 0)), (1, .int v1), (2, .int v2)]) hx hb dX8_seats_23 rfl hl (by decide) rfl (fun ls hl => ?_)
      refine lv_iconst (v := 0) hx hb dX8_seats_24 (by decide) ?_
      refine lv_istore (lv' := [(4, .int (0 : Int32)), (3, .int (0 : Int32)), (0, .ref (B 9 0)), (1, .int v1), (2, .int v2)]) hx hb dX8_seats_25 hl (by decide) rfl (fun ls hl => ?_)
      exact B_Y8_seats_27 C  N B M r hP   N  v1 v2 (0 : Int32) (0 : Int32) _ (lv_sub hl [2, 3, 4, 1, 0] rfl) hV
def D_Y8_seatsAgain_27 (N : Nat)  (M : Nat → Nat → Nat → Int32) : Nat → Int32 → Int32 → Int32 → Int32 → Option Int32
  | 0, _, _, _, _ => none
  | n + 1, v1, v2, v3, v4 => (if (3 : Int32) ≤ v4 then (some v3) else ((F_X6_seatsOnStage N (M 0) v4 v1 v2).bind (fun r1 => (D_Y8_seatsAgain_27 N  M  n  v1 v2 (v3 + r1) (v4 + 1)))))
set_option maxHeartbeats 4000000 in
set_option maxRecDepth 100000 in
theorem B_Y8_seatsAgain_27 {p : Program} {l : Launch} {e : Env} {s : State} {m : MethodId} {args : Array Value} {below : List Frame} {meth : Method} {c : Code} {D : va_G} {G : Nat → ClassId} (C : Cx p s m args meth c cX8_seatsAgain 5 RX8 (some .int) D G) (N : Nat) (B : Nat → Nat → Nat) (M : Nat → Nat → Nat → Int32) (r : Int32) (hP : va_P D vwCl (wTS B G M) s.heap) : (∀ (n : Nat) (v1 : Int32) (v2 : Int32) (v3 : Int32) (v4 : Int32) (ls : Array Slot), lv_has ls 5 [(0, .ref (B 9 0)), (1, .int v1), (2, .int v2), (3, .int v3), (4, .int v4)] → D_Y8_seatsAgain_27 N  M  n v1 v2 v3 v4 = some r → W p l e ({ frames := 3, cells := 0, slots := 0, locals := 71 } : Room) s m args below meth c s.heap [] 0 0 (MQ below (QcRd (some (.int r))) args s 0 0 nofree) (F0 m 27 ls [])) := by
  have C := C
  obtain ⟨hx, hb, hr, hml, hts, hown, hlocks, hK0⟩ := id C
  have hK := hK0.1
  intro n
  induction n with
  | zero =>
    intro v1 v2 v3 v4 ls hl hV
    rw [D_Y8_seatsAgain_27] at hV
    cases hV
  | succ n ih =>
    intro v1 v2 v3 v4 ls hl hV
    rw [D_Y8_seatsAgain_27] at hV
    refine lv_iload hx hb dX8_seatsAgain_27 (lv_at hl 4 rfl) ?_
    refine lv_iconst (v := 3) hx hb dX8_seatsAgain_29 (by decide) ?_
    refine lv_icmp_ge (tgt := 53) hx hb dX8_seatsAgain_30 (by decide) (fun c2 => ?_) (fun c2 => ?_)
    · have hV := jT1 hV c2
      refine lv_iload_n hx hb dX8_seatsAgain_53 rfl (lv_at hl 3 rfl) ?_
      exact pRet C rfl dX8_seatsAgain_54 rfl (Option.some.inj hV)
    · have hV := jF1 hV c2
      refine lv_iload_n hx hb dX8_seatsAgain_33 rfl (lv_at hl 3 rfl) ?_
      refine lv_aload_n hx hb dX8_seatsAgain_34 rfl (lv_at hl 0 rfl) ?_
      refine va_get (D := D) (ci := 10) (v := .ref (B 0 0)) (C := RX8) (T := TX8) (N := 8) hx hb hts ju_X8 hown hK hP 0 rfl rfl 0 (by decide) (hts _ jq_1_19) (fun _ h9 => h9) rfl dX8_seatsAgain_35 ?_
      refine lv_iload hx hb dX8_seatsAgain_38 (lv_at hl 4 rfl) ?_
      refine lv_iload_n hx hb dX8_seatsAgain_40 rfl (lv_at hl 1 rfl) ?_
      refine lv_iload_n hx hb dX8_seatsAgain_41 rfl (lv_at hl 2 rfl) ?_
      obtain ⟨r1, hr1, hV⟩ := jBind hV
      refine jVpI C dX8_seatsAgain_42 (k_X6_seatsOnStage l D G (B 0) N (M 0) v4 v1 v2 r1 hr1) jy_X6_seatsOnStage jq_21_6 jq_21_7 jq_21_8 ⟨rfl, rfl, Nat.le_of_ble_eq_true rfl, Nat.le_of_ble_eq_true rfl⟩ ⟨Nat.le_of_ble_eq_true rfl, Nat.le_of_ble_eq_true rfl⟩ (sTS_0 hP)  (ci := 8) (iw := 0) rfl rfl rfl hl (rest := [.int v3]) rfl (Nat.le_of_ble_eq_true rfl) ?_
      refine lv_iadd hx hb dX8_seatsAgain_45 ?_
      refine lv_istore_n (lv' := [(3, .int (v3 + r1)), (0, .ref (B 9 0)), (1, .int v1), (2, .int v2), (4, .int v4)]) hx hb dX8_seatsAgain_46 rfl hl (by decide) rfl (fun ls hl => ?_)
      refine lv_iinc (v := (v4 + 1)) (lv' := [(4, .int (v4 + 1)), (3, .int (v3 + r1)), (0, .ref (B 9 0)), (1, .int v1), (2, .int v2)]) hx hb dX8_seatsAgain_47 hl (k := 4) rfl rfl (by decide) rfl (fun ls hl => ?_)
      refine lv_goto (tgt := 27) hx hb dX8_seatsAgain_50 (by decide) ?_
      exact ih  v1 v2 (v3 + r1) (v4 + 1) _ (lv_sub hl [2, 3, 4, 1, 0] rfl) hV
def F_Y8_seatsAgain (N : Nat)  (M : Nat → Nat → Nat → Int32) (v1 v2 : Int32) : Option Int32 := (if (jIn v1 0 29) = 0 then (if (ckArgument (0 : Int32)) = 0 then (D_Y8_seatsAgain_27 N  M  N  v1 v2 (0 : Int32) (0 : Int32)) else none) else (if (jIn v2 0 2) = 0 then (if (ckArgument (0 : Int32)) = 0 then (D_Y8_seatsAgain_27 N  M  N  v1 v2 (0 : Int32) (0 : Int32)) else none) else (if (ckArgument (1 : Int32)) = 0 then (D_Y8_seatsAgain_27 N  M  N  v1 v2 (0 : Int32) (0 : Int32)) else none)))
set_option maxHeartbeats 4000000 in
set_option maxRecDepth 100000 in
theorem k_Y8_seatsAgain (l : Launch) (D : va_G) (G : Nat → ClassId) (B : Nat → Nat → Nat) (N : Nat) (M : Nat → Nat → Nat → Int32) (v1 v2 : Int32) (r : Int32) (hV : F_Y8_seatsAgain N  M v1 v2 = some r) : pM l yX8_seatsAgain (jws yX8_seatsAgain cX8_seatsAgain 5 (some .int)) ({ frames := 3, cells := 0, slots := 0, locals := 71 } : Room) [.ref (B 9 0), .int v1, .int v2] D G (wTS B G M) (some (.int r)) := by
  refine pM_of (by decide +kernel) (Nat.le_of_ble_eq_true rfl) (fun p e s m args below meth c ls C hP hl => ?_)
  have C : Cx p s m args meth c cX8_seatsAgain 5 RX8 (some .int) D G := C
  obtain ⟨hx, hb, hr, hml, hts, hown, hlocks, hK0⟩ := id C
  have hK := hK0.1
  have hl : lv_has ls 5 [(0, .ref (B 9 0)), (1, .int v1), (2, .int v2)] := hl
  rw [F_Y8_seatsAgain] at hV
  refine lv_iload_n hx hb dX8_seatsAgain_0 rfl (lv_at hl 1 rfl) ?_
  refine jSpI C dX8_seatsAgain_1 (kt_X8_isDate l D G    v1) jy_X8_isDate jq_19_12 jq_13_3 ⟨rfl, rfl, Nat.le_of_ble_eq_true rfl, Nat.le_of_ble_eq_true rfl⟩ ⟨Nat.le_of_ble_eq_true rfl, Nat.le_of_ble_eq_true rfl⟩ jE  hl (rest := []) rfl (Nat.le_of_ble_eq_true rfl) ?_
  refine lv_if_eq (tgt := 18) hx hb dX8_seatsAgain_4 (by decide) (fun c9 => ?_) (fun c9 => ?_)
  · have hV := jT1 hV c9
    refine lv_iconst (v := 0) hx hb dX8_seatsAgain_18 (by decide) ?_
    obtain ⟨g4, hV⟩ := jIfP hV
    refine jSpV C dX8_seatsAgain_19 (kn_X8_checkArgument l D G (0 : Int32) g4) jy_X8_checkArgument jq_12_0 jq_12_1 ⟨rfl, rfl, Nat.le_of_ble_eq_true rfl, Nat.le_of_ble_eq_true rfl⟩ ⟨Nat.le_of_ble_eq_true rfl, Nat.le_of_ble_eq_true rfl⟩ jE hl (rest := []) rfl (Nat.le_of_ble_eq_true rfl) ?_
    refine lv_iconst (v := 0) hx hb dX8_seatsAgain_22 (by decide) ?_
    refine lv_istore_n (lv' := [(3, .int (0 : Int32)), (0, .ref (B 9 0)), (1, .int v1), (2, .int v2)]) hx hb dX8_seatsAgain_23 rfl hl (by decide) rfl (fun ls hl => ?_)
    refine lv_iconst (v := 0) hx hb dX8_seatsAgain_24 (by decide) ?_
    refine lv_istore (lv' := [(4, .int (0 : Int32)), (3, .int (0 : Int32)), (0, .ref (B 9 0)), (1, .int v1), (2, .int v2)]) hx hb dX8_seatsAgain_25 hl (by decide) rfl (fun ls hl => ?_)
    exact B_Y8_seatsAgain_27 C  N B M r hP   N  v1 v2 (0 : Int32) (0 : Int32) _ (lv_sub hl [2, 3, 4, 1, 0] rfl) hV
  · have hV := jF1 hV c9
    refine lv_iload_n hx hb dX8_seatsAgain_7 rfl (lv_at hl 2 rfl) ?_
    refine jSpI C dX8_seatsAgain_8 (kt_X8_isSeatKind l D G    v2) jy_X8_isSeatKind jq_20_23 jq_21_0 ⟨rfl, rfl, Nat.le_of_ble_eq_true rfl, Nat.le_of_ble_eq_true rfl⟩ ⟨Nat.le_of_ble_eq_true rfl, Nat.le_of_ble_eq_true rfl⟩ jE  hl (rest := []) rfl (Nat.le_of_ble_eq_true rfl) ?_
    refine lv_if_eq (tgt := 18) hx hb dX8_seatsAgain_11 (by decide) (fun c8 => ?_) (fun c8 => ?_)
    · have hV := jT1 hV c8
      refine lv_iconst (v := 0) hx hb dX8_seatsAgain_18 (by decide) ?_
      obtain ⟨g6, hV⟩ := jIfP hV
      refine jSpV C dX8_seatsAgain_19 (kn_X8_checkArgument l D G (0 : Int32) g6) jy_X8_checkArgument jq_12_0 jq_12_1 ⟨rfl, rfl, Nat.le_of_ble_eq_true rfl, Nat.le_of_ble_eq_true rfl⟩ ⟨Nat.le_of_ble_eq_true rfl, Nat.le_of_ble_eq_true rfl⟩ jE hl (rest := []) rfl (Nat.le_of_ble_eq_true rfl) ?_
      refine lv_iconst (v := 0) hx hb dX8_seatsAgain_22 (by decide) ?_
      refine lv_istore_n (lv' := [(3, .int (0 : Int32)), (0, .ref (B 9 0)), (1, .int v1), (2, .int v2)]) hx hb dX8_seatsAgain_23 rfl hl (by decide) rfl (fun ls hl => ?_)
      refine lv_iconst (v := 0) hx hb dX8_seatsAgain_24 (by decide) ?_
      refine lv_istore (lv' := [(4, .int (0 : Int32)), (3, .int (0 : Int32)), (0, .ref (B 9 0)), (1, .int v1), (2, .int v2)]) hx hb dX8_seatsAgain_25 hl (by decide) rfl (fun ls hl => ?_)
      exact B_Y8_seatsAgain_27 C  N B M r hP   N  v1 v2 (0 : Int32) (0 : Int32) _ (lv_sub hl [2, 3, 4, 1, 0] rfl) hV
    · have hV := jF1 hV c8
      refine lv_iconst (v := 1) hx hb dX8_seatsAgain_14 (by decide) ?_
      refine lv_goto (tgt := 19) hx hb dX8_seatsAgain_15 (by decide) ?_
      obtain ⟨g7, hV⟩ := jIfP hV
      refine jSpV C dX8_seatsAgain_19 (kn_X8_checkArgument l D G (1 : Int32) g7) jy_X8_checkArgument jq_12_0 jq_12_1 ⟨rfl, rfl, Nat.le_of_ble_eq_true rfl, Nat.le_of_ble_eq_true rfl⟩ ⟨Nat.le_of_ble_eq_true rfl, Nat.le_of_ble_eq_true rfl⟩ jE hl (rest := []) rfl (Nat.le_of_ble_eq_true rfl) ?_
      refine lv_iconst (v := 0) hx hb dX8_seatsAgain_22 (by decide) ?_
      refine lv_istore_n (lv' := [(3, .int (0 : Int32)), (0, .ref (B 9 0)), (1, .int v1), (2, .int v2)]) hx hb dX8_seatsAgain_23 rfl hl (by decide) rfl (fun ls hl => ?_)
      refine lv_iconst (v := 0) hx hb dX8_seatsAgain_24 (by decide) ?_
      refine lv_istore (lv' := [(4, .int (0 : Int32)), (3, .int (0 : Int32)), (0, .ref (B 9 0)), (1, .int v1), (2, .int v2)]) hx hb dX8_seatsAgain_25 hl (by decide) rfl (fun ls hl => ?_)
      exact B_Y8_seatsAgain_27 C  N B M r hP   N  v1 v2 (0 : Int32) (0 : Int32) _ (lv_sub hl [2, 3, 4, 1, 0] rfl) hV
def F_Y8_subscription (N : Nat)  (M : Nat → Nat → Nat → Int32) (v1 v2 : Int32) : Option Int32 := ((F_X7_has N (M 0) v1).bind (fun r1 => (if (ckIndex r1) = 0 then ((F_X2_heldFor N (M 0) v1).bind (fun r3 => (if v2 = 0 then (some (rg 10 (M 0 13) v1)) else (if v2 = 1 then (some (bcnt r3)) else (if v2 = 2 then (some (rg 10 (M 0 14) v1)) else (if v2 = 3 then (some r3) else none)))))) else none)))
set_option maxHeartbeats 4000000 in
set_option maxRecDepth 100000 in
theorem k_Y8_subscription (l : Launch) (D : va_G) (G : Nat → ClassId) (B : Nat → Nat → Nat) (N : Nat) (M : Nat → Nat → Nat → Int32) (v1 v2 : Int32) (r : Int32) (hV : F_Y8_subscription N  M v1 v2 = some r) : pM l yX8_subscription (jws yX8_subscription cX8_subscription 4 (some .int)) ({ frames := 3, cells := 0, slots := 0, locals := 66 } : Room) [.ref (B 9 0), .int v1, .int v2] D G (wTS B G M) (some (.int r)) := by
  refine pM_of (by decide +kernel) (Nat.le_of_ble_eq_true rfl) (fun p e s m args below meth c ls C hP hl => ?_)
  have C : Cx p s m args meth c cX8_subscription 4 RX8 (some .int) D G := C
  obtain ⟨hx, hb, hr, hml, hts, hown, hlocks, hK0⟩ := id C
  have hK := hK0.1
  have hl : lv_has ls 4 [(0, .ref (B 9 0)), (1, .int v1), (2, .int v2)] := hl
  rw [F_Y8_subscription] at hV
  refine lv_aload_n hx hb dX8_subscription_0 rfl (lv_at hl 0 rfl) ?_
  refine va_get (D := D) (ci := 10) (v := .ref (B 0 0)) (C := RX8) (T := TX8) (N := 8) hx hb hts ju_X8 hown hK hP 0 rfl rfl 0 (by decide) (hts _ jq_1_19) (fun _ h9 => h9) rfl dX8_subscription_1 ?_
  refine va_getN (D := D) (ci := 8) (v := .ref (B 0 38)) (C := RX6) (T := TX6) (N := 7) (host := "TheatreSeasons") hx hb hts ju_X6 hown hK (sTS_0 hP) 0 rfl rfl 5 (by decide) (va_Nw.use rfl (hK0.2 _ jn_34)) (fun _ h9 => h9) rfl dX8_subscription_4 ?_
  refine lv_iload_n hx hb dX8_subscription_7 rfl (lv_at hl 1 rfl) ?_
  obtain ⟨r1, hr1, hV⟩ := jBind hV
  refine jVpI C dX8_subscription_8 (k_X7_has l D G (B 0) N (M 0) v1 r1 hr1) jy_X7_has jq_19_4 jq_16_1 jq_16_2 ⟨rfl, rfl, Nat.le_of_ble_eq_true rfl, Nat.le_of_ble_eq_true rfl⟩ ⟨Nat.le_of_ble_eq_true rfl, Nat.le_of_ble_eq_true rfl⟩ (sX6_X7 (sTS_0 hP))  (ci := 9) (iw := 0) rfl rfl rfl hl (rest := []) rfl (Nat.le_of_ble_eq_true rfl) ?_
  obtain ⟨g2, hV⟩ := jIfP hV
  refine jSpV C dX8_subscription_11 (kn_X8_checkIndex l D G r1 g2) jy_X8_checkIndex jq_11_19 jq_11_20 ⟨rfl, rfl, Nat.le_of_ble_eq_true rfl, Nat.le_of_ble_eq_true rfl⟩ ⟨Nat.le_of_ble_eq_true rfl, Nat.le_of_ble_eq_true rfl⟩ jE hl (rest := []) rfl (Nat.le_of_ble_eq_true rfl) ?_
  refine lv_aload_n hx hb dX8_subscription_14 rfl (lv_at hl 0 rfl) ?_
  refine va_get (D := D) (ci := 10) (v := .ref (B 0 0)) (C := RX8) (T := TX8) (N := 8) hx hb hts ju_X8 hown hK hP 0 rfl rfl 0 (by decide) (hts _ jq_1_19) (fun _ h9 => h9) rfl dX8_subscription_15 ?_
  refine va_getN (D := D) (ci := 8) (v := .ref (B 0 37)) (C := RX6) (T := TX6) (N := 7) (host := "TheatreSeasons") hx hb hts ju_X6 hown hK (sTS_0 hP) 0 rfl rfl 4 (by decide) (va_Nw.use rfl (hK0.2 _ jn_33)) (fun _ h9 => h9) rfl dX8_subscription_18 ?_
  refine lv_iload_n hx hb dX8_subscription_21 rfl (lv_at hl 1 rfl) ?_
  obtain ⟨r3, hr3, hV⟩ := jBind hV
  refine jVpI C dX8_subscription_22 (k_X2_heldFor l D G (B 0) N (M 0) v1 r3 hr3) jy_X2_heldFor jq_19_5 jq_16_19 jq_16_20 ⟨rfl, rfl, Nat.le_of_ble_eq_true rfl, Nat.le_of_ble_eq_true rfl⟩ ⟨Nat.le_of_ble_eq_true rfl, Nat.le_of_ble_eq_true rfl⟩ (sX6_X2 (sTS_0 hP))  (ci := 4) (iw := 0) rfl rfl rfl hl (rest := []) rfl (Nat.le_of_ble_eq_true rfl) ?_
  refine lv_istore_n (lv' := [(3, .int r3), (0, .ref (B 9 0)), (1, .int v1), (2, .int v2)]) hx hb dX8_subscription_25 rfl hl (by decide) rfl (fun ls hl => ?_)
  refine lv_iload_n hx hb dX8_subscription_26 rfl (lv_at hl 3 rfl) ?_
  by_cases c4_0 : v2 = 0
  · have hV := jT1 hV c4_0
    refine lv_tableIn (tgt := 56) hx hb dX8_subscription_27 (by rw [c4_0]; decide) (by rw [c4_0]; decide) (by rw [c4_0]; rfl) (by decide) ?_
    refine lv_aload_n hx hb dX8_subscription_56 rfl (lv_at hl 1 rfl) ?_
    refine va_get (D := D) (ci := 10) (v := .ref (B 0 0)) (C := RX8) (T := TX8) (N := 8) hx hb hts ju_X8 hown hK hP 0 rfl rfl 0 (by decide) (hts _ jq_1_19) (fun _ h9 => h9) rfl dX8_subscription_57 ?_
    refine va_getN (D := D) (ci := 8) (v := .ref (B 0 38)) (C := RX6) (T := TX6) (N := 7) (host := "TheatreSeasons") hx hb hts ju_X6 hown hK (sTS_0 hP) 0 rfl rfl 5 (by decide) (va_Nw.use rfl (hK0.2 _ jn_34)) (fun _ h9 => h9) rfl dX8_subscription_60 ?_
    refine va_getN (D := D) (ci := 9) (v := .ref (B 0 26)) (C := RX7) (T := TX7) (N := 3) (host := "TheatreSeasons") hx hb hts ju_X7 hown hK (sX6_X7 (sTS_0 hP)) 0 rfl rfl 1 (by decide) (va_Nw.use rfl (hK0.2 _ jn_23)) (fun _ h9 => h9) rfl dX8_subscription_63 ?_
    refine lv_iload_n hx hb dX8_subscription_66 rfl (lv_at hl 2 rfl) ?_
    refine jVpI C dX8_subscription_67 (kt_X5_get l D G (B 0 26) (B 0 27) 10 (Nat.le_of_ble_eq_true rfl) (M 0 13) v1) jy_X5_get jq_7_5 jq_6_13 jq_6_14 ⟨rfl, rfl, Nat.le_of_ble_eq_true rfl, Nat.le_of_ble_eq_true rfl⟩ ⟨Nat.le_of_ble_eq_true rfl, Nat.le_of_ble_eq_true rfl⟩ (sX7_13 (sX6_X7 (sTS_0 hP)))  (ci := 7) (iw := 0) rfl rfl rfl hl (rest := []) rfl (Nat.le_of_ble_eq_true rfl) ?_
    exact pRet C rfl dX8_subscription_70 rfl (Option.some.inj hV)
  · have hV := jF1 hV c4_0
    by_cases c4_1 : v2 = 1
    · have hV := jT1 hV c4_1
      refine lv_tableIn (tgt := 71) hx hb dX8_subscription_27 (by rw [c4_1]; decide) (by rw [c4_1]; decide) (by rw [c4_1]; rfl) (by decide) ?_
      refine lv_iload_n hx hb dX8_subscription_71 rfl (lv_at hl 0 rfl) ?_
      refine jSpI C dX8_subscription_72 (kt_bitCount l D G r3) jy_J6_bitCount_0f7a4 jq_19_6 jq_17_0 ⟨rfl, rfl, Nat.le_of_ble_eq_true rfl, Nat.le_of_ble_eq_true rfl⟩ ⟨Nat.le_of_ble_eq_true rfl, Nat.le_of_ble_eq_true rfl⟩ jE hl (rest := []) rfl (Nat.le_of_ble_eq_true rfl) ?_
      exact pRet C rfl dX8_subscription_75 rfl (Option.some.inj hV)
    · have hV := jF1 hV c4_1
      by_cases c4_2 : v2 = 2
      · have hV := jT1 hV c4_2
        refine lv_tableIn (tgt := 76) hx hb dX8_subscription_27 (by rw [c4_2]; decide) (by rw [c4_2]; decide) (by rw [c4_2]; rfl) (by decide) ?_
        refine lv_aload_n hx hb dX8_subscription_76 rfl (lv_at hl 1 rfl) ?_
        refine va_get (D := D) (ci := 10) (v := .ref (B 0 0)) (C := RX8) (T := TX8) (N := 8) hx hb hts ju_X8 hown hK hP 0 rfl rfl 0 (by decide) (hts _ jq_1_19) (fun _ h9 => h9) rfl dX8_subscription_77 ?_
        refine va_getN (D := D) (ci := 8) (v := .ref (B 0 38)) (C := RX6) (T := TX6) (N := 7) (host := "TheatreSeasons") hx hb hts ju_X6 hown hK (sTS_0 hP) 0 rfl rfl 5 (by decide) (va_Nw.use rfl (hK0.2 _ jn_34)) (fun _ h9 => h9) rfl dX8_subscription_80 ?_
        refine va_getN (D := D) (ci := 9) (v := .ref (B 0 28)) (C := RX7) (T := TX7) (N := 3) (host := "TheatreSeasons") hx hb hts ju_X7 hown hK (sX6_X7 (sTS_0 hP)) 0 rfl rfl 2 (by decide) (va_Nw.use rfl (hK0.2 _ jn_24)) (fun _ h9 => h9) rfl dX8_subscription_83 ?_
        refine lv_iload_n hx hb dX8_subscription_86 rfl (lv_at hl 2 rfl) ?_
        refine jVpI C dX8_subscription_87 (kt_X5_get l D G (B 0 28) (B 0 29) 10 (Nat.le_of_ble_eq_true rfl) (M 0 14) v1) jy_X5_get jq_7_5 jq_6_13 jq_6_14 ⟨rfl, rfl, Nat.le_of_ble_eq_true rfl, Nat.le_of_ble_eq_true rfl⟩ ⟨Nat.le_of_ble_eq_true rfl, Nat.le_of_ble_eq_true rfl⟩ (sX7_14 (sX6_X7 (sTS_0 hP)))  (ci := 7) (iw := 0) rfl rfl rfl hl (rest := []) rfl (Nat.le_of_ble_eq_true rfl) ?_
        exact pRet C rfl dX8_subscription_90 rfl (Option.some.inj hV)
      · have hV := jF1 hV c4_2
        by_cases c4_3 : v2 = 3
        · have hV := jT1 hV c4_3
          refine lv_tableIn (tgt := 91) hx hb dX8_subscription_27 (by rw [c4_3]; decide) (by rw [c4_3]; decide) (by rw [c4_3]; rfl) (by decide) ?_
          refine lv_iload_n hx hb dX8_subscription_91 rfl (lv_at hl 0 rfl) ?_
          exact pRet C rfl dX8_subscription_92 rfl (Option.some.inj hV)
        · have hV := jF1 hV c4_3
          refine jTabDef (tgt := 93) hx hb dX8_subscription_27 (fun k h1 h2 h3 => ?_) (by decide) ?_
          · rcases (show k = 0 ∨ k = 1 ∨ k = 2 ∨ k = 3 by omega) with rfl | rfl | rfl | rfl <;> first | rfl | exact absurd (Int32.toInt_inj.mp (h3.trans (by decide))) c4_0 | exact absurd (Int32.toInt_inj.mp (h3.trans (by decide))) c4_1 | exact absurd (Int32.toInt_inj.mp (h3.trans (by decide))) c4_2 | exact absurd (Int32.toInt_inj.mp (h3.trans (by decide))) c4_3
          · cases hV
def F_Y8_reason (N : Nat)  (M : Nat → Nat → Nat → Int32) (v1 : Int32) : Option Int32 := (if (M 9 0 1) = (-1 : Int32) then none else (if v1 = 0 then (some (M 9 0 1)) else (some (M 9 0 2))))
set_option maxHeartbeats 4000000 in
set_option maxRecDepth 100000 in
theorem k_Y8_reason (l : Launch) (D : va_G) (G : Nat → ClassId) (B : Nat → Nat → Nat) (N : Nat) (M : Nat → Nat → Nat → Int32) (v1 : Int32) (r : Int32) (hV : F_Y8_reason N  M v1 = some r) : pM l yX8_reason (jws yX8_reason cX8_reason 2 (some .int)) ({ frames := 0, cells := 0, slots := 0, locals := 0 } : Room) [.ref (B 9 0), .int v1] D G (wTS B G M) (some (.int r)) := by
  refine pM_of (by decide +kernel) (Nat.le_of_ble_eq_true rfl) (fun p e s m args below meth c ls C hP hl => ?_)
  have C : Cx p s m args meth c cX8_reason 2 RX8 (some .int) D G := C
  obtain ⟨hx, hb, hr, hml, hts, hown, hlocks, hK0⟩ := id C
  have hK := hK0.1
  have hl : lv_has ls 2 [(0, .ref (B 9 0)), (1, .int v1)] := hl
  rw [F_Y8_reason] at hV
  refine lv_aload_n hx hb dX8_reason_0 rfl (lv_at hl 0 rfl) ?_
  refine va_get (D := D) (ci := 10) (v := .int (M 9 0 1)) (C := RX8) (T := TX8) (N := 8) hx hb hts ju_X8 hown hK hP 0 rfl rfl 5 (by decide) (hts _ jq_2_5) (fun _ h9 => h9) rfl dX8_reason_1 ?_
  refine lv_iconst (v := -1) hx hb dX8_reason_4 (by decide) ?_
  refine lv_icmp_ne (tgt := 19) hx hb dX8_reason_5 (by decide) (fun c2 => ?_) (fun c2 => ?_)
  · have hV := jF1 hV c2
    refine lv_iload_n hx hb dX8_reason_19 rfl (lv_at hl 1 rfl) ?_
    refine lv_if_eq (tgt := 30) hx hb dX8_reason_20 (by decide) (fun c1 => ?_) (fun c1 => ?_)
    · have hV := jT1 hV c1
      refine lv_aload_n hx hb dX8_reason_30 rfl (lv_at hl 0 rfl) ?_
      refine va_get (D := D) (ci := 10) (v := .int (M 9 0 1)) (C := RX8) (T := TX8) (N := 8) hx hb hts ju_X8 hown hK hP 0 rfl rfl 5 (by decide) (hts _ jq_2_5) (fun _ h9 => h9) rfl dX8_reason_31 ?_
      exact pRet C rfl dX8_reason_34 rfl (Option.some.inj hV)
    · have hV := jF1 hV c1
      refine lv_aload_n hx hb dX8_reason_23 rfl (lv_at hl 0 rfl) ?_
      refine va_get (D := D) (ci := 10) (v := .int (M 9 0 2)) (C := RX8) (T := TX8) (N := 8) hx hb hts ju_X8 hown hK hP 0 rfl rfl 6 (by decide) (hts _ jq_2_6) (fun _ h9 => h9) rfl dX8_reason_24 ?_
      refine lv_goto (tgt := 34) hx hb dX8_reason_27 (by decide) ?_
      exact pRet C rfl dX8_reason_34 rfl (Option.some.inj hV)
  · have hV := jT1 hV c2
    cases hV
def F_Y8_partner (N : Nat)  (M : Nat → Nat → Nat → Int32) (v1 : Int32) : Option UInt32 := ((F_X3_has N (M 0) v1).bind (fun r1 => (if (ckIndex r1) = 0 then ((F_X6_takingsOf N (M 0) v1).bind (fun r4 => (some (FP.fdiv (FP.fmul (FP.i2f r4) (FP.i2f (rg 8 (M 0 5) v1))) (1120403456 : UInt32))))) else none)))
set_option maxHeartbeats 4000000 in
set_option maxRecDepth 100000 in
theorem k_Y8_partner (l : Launch) (D : va_G) (G : Nat → ClassId) (B : Nat → Nat → Nat) (N : Nat) (M : Nat → Nat → Nat → Int32) (v1 : Int32) (r : UInt32) (hV : F_Y8_partner N  M v1 = some r) : pM l yX8_partner (jws yX8_partner cX8_partner 3 (some .float)) ({ frames := 2, cells := 0, slots := 0, locals := 45 } : Room) [.ref (B 9 0), .int v1] D G (wTS B G M) (some (.float r)) := by
  refine pM_of (by decide +kernel) (Nat.le_of_ble_eq_true rfl) (fun p e s m args below meth c ls C hP hl => ?_)
  have C : Cx p s m args meth c cX8_partner 3 RX8 (some .float) D G := C
  obtain ⟨hx, hb, hr, hml, hts, hown, hlocks, hK0⟩ := id C
  have hK := hK0.1
  have hl : lv_has ls 3 [(0, .ref (B 9 0)), (1, .int v1)] := hl
  rw [F_Y8_partner] at hV
  refine lv_aload_n hx hb dX8_partner_0 rfl (lv_at hl 0 rfl) ?_
  refine va_get (D := D) (ci := 10) (v := .ref (B 0 0)) (C := RX8) (T := TX8) (N := 8) hx hb hts ju_X8 hown hK hP 0 rfl rfl 0 (by decide) (hts _ jq_1_19) (fun _ h9 => h9) rfl dX8_partner_1 ?_
  refine va_getN (D := D) (ci := 8) (v := .ref (B 0 36)) (C := RX6) (T := TX6) (N := 7) (host := "TheatreSeasons") hx hb hts ju_X6 hown hK (sTS_0 hP) 0 rfl rfl 3 (by decide) (va_Nw.use rfl (hK0.2 _ jn_32)) (fun _ h9 => h9) rfl dX8_partner_4 ?_
  refine lv_iload_n hx hb dX8_partner_7 rfl (lv_at hl 1 rfl) ?_
  obtain ⟨r1, hr1, hV⟩ := jBind hV
  refine jVpI C dX8_partner_8 (k_X3_has l D G (B 0) N (M 0) v1 r1 hr1) jy_X3_has jq_20_5 jq_12_21 jq_12_22 ⟨rfl, rfl, Nat.le_of_ble_eq_true rfl, Nat.le_of_ble_eq_true rfl⟩ ⟨Nat.le_of_ble_eq_true rfl, Nat.le_of_ble_eq_true rfl⟩ (sX6_X3 (sTS_0 hP))  (ci := 5) (iw := 0) rfl rfl rfl hl (rest := []) rfl (Nat.le_of_ble_eq_true rfl) ?_
  obtain ⟨g2, hV⟩ := jIfP hV
  refine jSpV C dX8_partner_11 (kn_X8_checkIndex l D G r1 g2) jy_X8_checkIndex jq_11_19 jq_11_20 ⟨rfl, rfl, Nat.le_of_ble_eq_true rfl, Nat.le_of_ble_eq_true rfl⟩ ⟨Nat.le_of_ble_eq_true rfl, Nat.le_of_ble_eq_true rfl⟩ jE hl (rest := []) rfl (Nat.le_of_ble_eq_true rfl) ?_
  refine lv_aload_n hx hb dX8_partner_14 rfl (lv_at hl 0 rfl) ?_
  refine va_get (D := D) (ci := 10) (v := .ref (B 0 0)) (C := RX8) (T := TX8) (N := 8) hx hb hts ju_X8 hown hK hP 0 rfl rfl 0 (by decide) (hts _ jq_1_19) (fun _ h9 => h9) rfl dX8_partner_15 ?_
  refine va_getN (D := D) (ci := 8) (v := .ref (B 0 36)) (C := RX6) (T := TX6) (N := 7) (host := "TheatreSeasons") hx hb hts ju_X6 hown hK (sTS_0 hP) 0 rfl rfl 3 (by decide) (va_Nw.use rfl (hK0.2 _ jn_32)) (fun _ h9 => h9) rfl dX8_partner_18 ?_
  refine va_getN (D := D) (ci := 5) (v := .ref (B 0 10)) (C := RX3) (T := TX3) (N := 6) (host := "TheatreSeasons") hx hb hts ju_X3 hown hK (sX6_X3 (sTS_0 hP)) 0 rfl rfl 4 (by decide) (va_Nw.use rfl (hK0.2 _ jn_6)) (fun _ h9 => h9) rfl dX8_partner_21 ?_
  refine lv_iload_n hx hb dX8_partner_24 rfl (lv_at hl 1 rfl) ?_
  refine jVpI C dX8_partner_25 (kt_X5_get l D G (B 0 10) (B 0 11) 8 (Nat.le_of_ble_eq_true rfl) (M 0 5) v1) jy_X5_get jq_7_5 jq_6_13 jq_6_14 ⟨rfl, rfl, Nat.le_of_ble_eq_true rfl, Nat.le_of_ble_eq_true rfl⟩ ⟨Nat.le_of_ble_eq_true rfl, Nat.le_of_ble_eq_true rfl⟩ (sX3_5 (sX6_X3 (sTS_0 hP)))  (ci := 7) (iw := 0) rfl rfl rfl hl (rest := []) rfl (Nat.le_of_ble_eq_true rfl) ?_
  refine lv_istore_n (lv' := [(2, .int (rg 8 (M 0 5) v1)), (0, .ref (B 9 0)), (1, .int v1)]) hx hb dX8_partner_28 rfl hl (by decide) rfl (fun ls hl => ?_)
  refine lv_aload_n hx hb dX8_partner_29 rfl (lv_at hl 1 rfl) ?_
  refine va_get (D := D) (ci := 10) (v := .ref (B 0 0)) (C := RX8) (T := TX8) (N := 8) hx hb hts ju_X8 hown hK hP 0 rfl rfl 0 (by decide) (hts _ jq_1_19) (fun _ h9 => h9) rfl dX8_partner_30 ?_
  refine lv_iload_n hx hb dX8_partner_33 rfl (lv_at hl 2 rfl) ?_
  obtain ⟨r4, hr4, hV⟩ := jBind hV
  refine jVpI C dX8_partner_34 (k_X6_takingsOf l D G (B 0) N (M 0) v1 r4 hr4) jy_X6_takingsOf jq_20_13 jq_7_2 jq_7_3 ⟨rfl, rfl, Nat.le_of_ble_eq_true rfl, Nat.le_of_ble_eq_true rfl⟩ ⟨Nat.le_of_ble_eq_true rfl, Nat.le_of_ble_eq_true rfl⟩ (sTS_0 hP)  (ci := 8) (iw := 0) rfl rfl rfl hl (rest := []) rfl (Nat.le_of_ble_eq_true rfl) ?_
  refine lv_i2f hx hb dX8_partner_37 ?_
  refine lv_iload_n hx hb dX8_partner_38 rfl (lv_at hl 0 rfl) ?_
  refine lv_i2f hx hb dX8_partner_39 ?_
  refine lv_fmul hx hb dX8_partner_40 (fp_mul _ _) ?_
  refine lv_ldcf hx hb hown (hts _ jq_21_15) dX8_partner_41 ?_
  refine lv_fdiv hx hb dX8_partner_43 (fp_div _ _) ?_
  exact pRetF C rfl dX8_partner_44 (Option.some.inj hV)
def F_Y8_fullness (N : Nat)  (M : Nat → Nat → Nat → Int32) (v1 : Int32) : Option UInt64 := ((F_X3_has N (M 0) v1).bind (fun r1 => (if (ckIndex r1) = 0 then ((F_X6_seatsOfProduction N (M 0) v1 (1 : Int32)).bind (fun r3 => (if 0 < r3 then ((F_X6_seatsOfProduction N (M 0) v1 (0 : Int32)).bind (fun r4 => (if decide (r3 ≠ 0) = true then (some (FP.ddiv (FP.i2d r4) (FP.i2d r3))) else none))) else none))) else none)))
set_option maxHeartbeats 4000000 in
set_option maxRecDepth 100000 in
theorem k_Y8_fullness (l : Launch) (D : va_G) (G : Nat → ClassId) (B : Nat → Nat → Nat) (N : Nat) (M : Nat → Nat → Nat → Int32) (v1 : Int32) (r : UInt64) (hV : F_Y8_fullness N  M v1 = some r) : pM l yX8_fullness (jws yX8_fullness cX8_fullness 3 (some .double)) ({ frames := 3, cells := 0, slots := 0, locals := 67 } : Room) [.ref (B 9 0), .int v1] D G (wTS B G M) (some (.double r)) := by
  refine pM_of (by decide +kernel) (Nat.le_of_ble_eq_true rfl) (fun p e s m args below meth c ls C hP hl => ?_)
  have C : Cx p s m args meth c cX8_fullness 3 RX8 (some .double) D G := C
  obtain ⟨hx, hb, hr, hml, hts, hown, hlocks, hK0⟩ := id C
  have hK := hK0.1
  have hl : lv_has ls 3 [(0, .ref (B 9 0)), (1, .int v1)] := hl
  rw [F_Y8_fullness] at hV
  refine lv_aload_n hx hb dX8_fullness_0 rfl (lv_at hl 0 rfl) ?_
  refine va_get (D := D) (ci := 10) (v := .ref (B 0 0)) (C := RX8) (T := TX8) (N := 8) hx hb hts ju_X8 hown hK hP 0 rfl rfl 0 (by decide) (hts _ jq_1_19) (fun _ h9 => h9) rfl dX8_fullness_1 ?_
  refine va_getN (D := D) (ci := 8) (v := .ref (B 0 36)) (C := RX6) (T := TX6) (N := 7) (host := "TheatreSeasons") hx hb hts ju_X6 hown hK (sTS_0 hP) 0 rfl rfl 3 (by decide) (va_Nw.use rfl (hK0.2 _ jn_32)) (fun _ h9 => h9) rfl dX8_fullness_4 ?_
  refine lv_iload_n hx hb dX8_fullness_7 rfl (lv_at hl 1 rfl) ?_
  obtain ⟨r1, hr1, hV⟩ := jBind hV
  refine jVpI C dX8_fullness_8 (k_X3_has l D G (B 0) N (M 0) v1 r1 hr1) jy_X3_has jq_20_5 jq_12_21 jq_12_22 ⟨rfl, rfl, Nat.le_of_ble_eq_true rfl, Nat.le_of_ble_eq_true rfl⟩ ⟨Nat.le_of_ble_eq_true rfl, Nat.le_of_ble_eq_true rfl⟩ (sX6_X3 (sTS_0 hP))  (ci := 5) (iw := 0) rfl rfl rfl hl (rest := []) rfl (Nat.le_of_ble_eq_true rfl) ?_
  obtain ⟨g2, hV⟩ := jIfP hV
  refine jSpV C dX8_fullness_11 (kn_X8_checkIndex l D G r1 g2) jy_X8_checkIndex jq_11_19 jq_11_20 ⟨rfl, rfl, Nat.le_of_ble_eq_true rfl, Nat.le_of_ble_eq_true rfl⟩ ⟨Nat.le_of_ble_eq_true rfl, Nat.le_of_ble_eq_true rfl⟩ jE hl (rest := []) rfl (Nat.le_of_ble_eq_true rfl) ?_
  refine lv_aload_n hx hb dX8_fullness_14 rfl (lv_at hl 0 rfl) ?_
  refine va_get (D := D) (ci := 10) (v := .ref (B 0 0)) (C := RX8) (T := TX8) (N := 8) hx hb hts ju_X8 hown hK hP 0 rfl rfl 0 (by decide) (hts _ jq_1_19) (fun _ h9 => h9) rfl dX8_fullness_15 ?_
  refine lv_iload_n hx hb dX8_fullness_18 rfl (lv_at hl 1 rfl) ?_
  refine lv_iconst (v := 1) hx hb dX8_fullness_19 (by decide) ?_
  obtain ⟨r3, hr3, hV⟩ := jBind hV
  refine jVpI C dX8_fullness_20 (k_X6_seatsOfProduction l D G (B 0) N (M 0) v1 (1 : Int32) r3 hr3) jy_X6_seatsOfProduction jq_21_22 jq_21_23 jq_22_0 ⟨rfl, rfl, Nat.le_of_ble_eq_true rfl, Nat.le_of_ble_eq_true rfl⟩ ⟨Nat.le_of_ble_eq_true rfl, Nat.le_of_ble_eq_true rfl⟩ (sTS_0 hP)  (ci := 8) (iw := 0) rfl rfl rfl hl (rest := []) rfl (Nat.le_of_ble_eq_true rfl) ?_
  refine lv_istore_n (lv' := [(2, .int r3), (0, .ref (B 9 0)), (1, .int v1)]) hx hb dX8_fullness_23 rfl hl (by decide) rfl (fun ls hl => ?_)
  refine lv_iload_n hx hb dX8_fullness_24 rfl (lv_at hl 0 rfl) ?_
  refine lv_if_gt (tgt := 38) hx hb dX8_fullness_25 (by decide) (fun c6 => ?_) (fun c6 => ?_)
  · have hV := jT1 hV c6
    refine lv_aload_n hx hb dX8_fullness_38 rfl (lv_at hl 1 rfl) ?_
    refine va_get (D := D) (ci := 10) (v := .ref (B 0 0)) (C := RX8) (T := TX8) (N := 8) hx hb hts ju_X8 hown hK hP 0 rfl rfl 0 (by decide) (hts _ jq_1_19) (fun _ h9 => h9) rfl dX8_fullness_39 ?_
    refine lv_iload_n hx hb dX8_fullness_42 rfl (lv_at hl 2 rfl) ?_
    refine lv_iconst (v := 0) hx hb dX8_fullness_43 (by decide) ?_
    obtain ⟨r4, hr4, hV⟩ := jBind hV
    refine jVpI C dX8_fullness_44 (k_X6_seatsOfProduction l D G (B 0) N (M 0) v1 (0 : Int32) r4 hr4) jy_X6_seatsOfProduction jq_21_22 jq_21_23 jq_22_0 ⟨rfl, rfl, Nat.le_of_ble_eq_true rfl, Nat.le_of_ble_eq_true rfl⟩ ⟨Nat.le_of_ble_eq_true rfl, Nat.le_of_ble_eq_true rfl⟩ (sTS_0 hP)  (ci := 8) (iw := 0) rfl rfl rfl hl (rest := []) rfl (Nat.le_of_ble_eq_true rfl) ?_
    refine lv_i2d hx hb dX8_fullness_47 ?_
    refine lv_iload_n hx hb dX8_fullness_48 rfl (lv_at hl 0 rfl) ?_
    refine lv_i2d hx hb dX8_fullness_49 ?_
    obtain ⟨g5, hV⟩ := jIf hV
    refine lv_ddiv hx hb dX8_fullness_50 (fp_ddiv _ (of_decide_eq_true g5)) ?_
    exact pRetD C rfl dX8_fullness_51 (Option.some.inj hV)
  · have hV := jF1 hV c6
    cases hV
def D_Y8_closeChange_37 (N : Nat)  (M : Nat → Nat → Nat → Int32) (v1 : Int32) (s0 : Int32) : Option (Int32 × (Nat → Nat → Nat → Int32)) := (if (ckArgument s0) = 0 then (if v1 = (-3 : Int32) then none else ((F_X8_keepRefusal N M v1).bind (fun r2 => none))) else none)
set_option maxHeartbeats 4000000 in
set_option maxRecDepth 100000 in
theorem B_Y8_closeChange_37 {p : Program} {l : Launch} {e : Env} {s : State} {m : MethodId} {args : Array Value} {below : List Frame} {meth : Method} {c : Code} {D : va_G} {G : Nat → ClassId} {A : Nat → Prop} (C : Cx p s m args meth c cX8_closeChange 2 RX8 (some .int) D G) (hA : ∀ q : Nat, s.heap.size ≤ q → A q) (N : Nat) (B : Nat → Nat → Nat) (r : (Int32 × (Nat → Nat → Nat → Int32))) : (∀ (M : Nat → Nat → Nat → Int32) (v1 : Int32) (s0 : Int32) (ls : Array Slot) (H : Heap) (locs : List Loc), va_P D vwCl (wTS B G M) H → va_D A (wTS B G M) → va_S A s.heap H locs → lv_has ls 2 [(0, .ref (B 9 0)), (1, .int v1)] → D_Y8_closeChange_37 N   M v1 s0 = some r → W p l e ({ frames := 2, cells := 0, slots := 0, locals := 50 } : Room) s m args below meth c H locs 0 0 (MQ below (mQ D (wTS B G r.2) (some (.int r.1)) A) args s 0 0 A) (F0 m 37 ls [.int s0])) := by
  have C := C
  obtain ⟨hx, hb, hr, hml, hts, hown, hlocks, hK0⟩ := id C
  have hK := hK0.1
  intro M v1 s0 ls H locs hP hD hS hl hV
  rw [D_Y8_closeChange_37] at hV
  obtain ⟨g1, hV⟩ := jIfP hV
  refine jSpV C dX8_closeChange_37 (kn_X8_checkArgument l D G s0 g1) jy_X8_checkArgument jq_12_0 jq_12_1 ⟨rfl, rfl, Nat.le_of_ble_eq_true rfl, Nat.le_of_ble_eq_true rfl⟩ ⟨Nat.le_of_ble_eq_true rfl, Nat.le_of_ble_eq_true rfl⟩ jE hl (rest := []) rfl (Nat.le_of_ble_eq_true rfl) ?_
  refine lv_iload_n hx hb dX8_closeChange_40 rfl (lv_at hl 1 rfl) ?_
  refine lv_bipush (v := -3) hx hb dX8_closeChange_41 (by decide) ?_
  refine lv_icmp_ne (tgt := 57) hx hb dX8_closeChange_43 (by decide) (fun c3 => ?_) (fun c3 => ?_)
  · have hV := jF1 hV c3
    refine lv_aload_n hx hb dX8_closeChange_57 rfl (lv_at hl 0 rfl) ?_
    refine lv_iload_n hx hb dX8_closeChange_58 rfl (lv_at hl 1 rfl) ?_
    obtain ⟨r2, hr2, hV⟩ := jBind hV
    refine jVmV C dX8_closeChange_59 (k_X8_keepRefusal l D G B N M v1 r2 hr2) jy_X8_keepRefusal jq_12_3 jq_12_4 jq_12_5 ⟨rfl, rfl, Nat.le_of_ble_eq_true rfl, Nat.le_of_ble_eq_true rfl⟩ ⟨Nat.le_of_ble_eq_true rfl, Nat.le_of_ble_eq_true rfl⟩ hP hD hA hS (ci := 10) (iw := 0) rfl rfl rfl hl (rest := []) rfl (Nat.le_of_ble_eq_true rfl) (fun H locs hQ hz hkp hS => ?_)
    have hP : va_P D vwCl (wTS B G r2) H := hQ
    have hD : va_D A (wTS B G r2) := jD (w := (wTS B G M)) (dTS _ _) hD
    cases hV
  · have hV := jT1 hV c3
    cases hV
def F_Y8_closeChange (N : Nat)  (M : Nat → Nat → Nat → Int32) (v1 : Int32) : Option (Int32 × (Nat → Nat → Nat → Int32)) := (if v1 < 0 then (if v1 = (-1 : Int32) then (if (ckIndex (0 : Int32)) = 0 then (if v1 = (-2 : Int32) then (D_Y8_closeChange_37 N   M v1 (0 : Int32)) else (D_Y8_closeChange_37 N   M v1 (1 : Int32))) else none) else (if (ckIndex (1 : Int32)) = 0 then (if v1 = (-2 : Int32) then (D_Y8_closeChange_37 N   M v1 (0 : Int32)) else (D_Y8_closeChange_37 N   M v1 (1 : Int32))) else none)) else (jlet (hClose M) (fun M10 => (some (v1, M10)))))
set_option maxHeartbeats 4000000 in
set_option maxRecDepth 100000 in
theorem k_Y8_closeChange (l : Launch) (D : va_G) (G : Nat → ClassId) (B : Nat → Nat → Nat) (N : Nat) (M : Nat → Nat → Nat → Int32) (v1 : Int32) (r : (Int32 × (Nat → Nat → Nat → Int32))) (hV : F_Y8_closeChange N  M v1 = some r) : mM l yX8_closeChange (jws yX8_closeChange cX8_closeChange 2 (some .int)) ({ frames := 2, cells := 0, slots := 0, locals := 50 } : Room) [.ref (B 9 0), .int v1] D G (wTS B G M) (wTS B G r.2) (some (.int r.1)) := by
  refine mM_of (by decide +kernel) (Nat.le_of_ble_eq_true rfl) (fun p e s m args below meth c ls A C hP hD hA hl => ?_)
  have C : Cx p s m args meth c cX8_closeChange 2 RX8 (some .int) D G := C
  have hS : va_S A s.heap s.heap [] := va_S.rf
  obtain ⟨hx, hb, hr, hml, hts, hown, hlocks, hK0⟩ := id C
  have hK := hK0.1
  have hl : lv_has ls 2 [(0, .ref (B 9 0)), (1, .int v1)] := hl
  rw [F_Y8_closeChange] at hV
  refine lv_iload_n hx hb dX8_closeChange_0 rfl (lv_at hl 1 rfl) ?_
  refine lv_if_lt (tgt := 13) hx hb dX8_closeChange_1 (by decide) (fun c12 => ?_) (fun c12 => ?_)
  · have hV := jT1 hV c12
    refine lv_iload_n hx hb dX8_closeChange_13 rfl (lv_at hl 1 rfl) ?_
    refine lv_iconst (v := -1) hx hb dX8_closeChange_14 (by decide) ?_
    refine lv_icmp_eq (tgt := 22) hx hb dX8_closeChange_15 (by decide) (fun c8 => ?_) (fun c8 => ?_)
    · have hV := jT1 hV c8
      refine lv_iconst (v := 0) hx hb dX8_closeChange_22 (by decide) ?_
      obtain ⟨g4, hV⟩ := jIfP hV
      refine jSpV C dX8_closeChange_23 (kn_X8_checkIndex l D G (0 : Int32) g4) jy_X8_checkIndex jq_11_19 jq_11_20 ⟨rfl, rfl, Nat.le_of_ble_eq_true rfl, Nat.le_of_ble_eq_true rfl⟩ ⟨Nat.le_of_ble_eq_true rfl, Nat.le_of_ble_eq_true rfl⟩ jE hl (rest := []) rfl (Nat.le_of_ble_eq_true rfl) ?_
      refine lv_iload_n hx hb dX8_closeChange_26 rfl (lv_at hl 1 rfl) ?_
      refine lv_bipush (v := -2) hx hb dX8_closeChange_27 (by decide) ?_
      refine lv_icmp_eq (tgt := 36) hx hb dX8_closeChange_29 (by decide) (fun c5 => ?_) (fun c5 => ?_)
      · have hV := jT1 hV c5
        refine lv_iconst (v := 0) hx hb dX8_closeChange_36 (by decide) ?_
        exact B_Y8_closeChange_37 C hA N B r   M v1 (0 : Int32) _ _ _ hP hD hS (lv_sub hl [0, 1] rfl) hV
      · have hV := jF1 hV c5
        refine lv_iconst (v := 1) hx hb dX8_closeChange_32 (by decide) ?_
        refine lv_goto (tgt := 37) hx hb dX8_closeChange_33 (by decide) ?_
        exact B_Y8_closeChange_37 C hA N B r   M v1 (1 : Int32) _ _ _ hP hD hS (lv_sub hl [0, 1] rfl) hV
    · have hV := jF1 hV c8
      refine lv_iconst (v := 1) hx hb dX8_closeChange_18 (by decide) ?_
      refine lv_goto (tgt := 23) hx hb dX8_closeChange_19 (by decide) ?_
      obtain ⟨g6, hV⟩ := jIfP hV
      refine jSpV C dX8_closeChange_23 (kn_X8_checkIndex l D G (1 : Int32) g6) jy_X8_checkIndex jq_11_19 jq_11_20 ⟨rfl, rfl, Nat.le_of_ble_eq_true rfl, Nat.le_of_ble_eq_true rfl⟩ ⟨Nat.le_of_ble_eq_true rfl, Nat.le_of_ble_eq_true rfl⟩ jE hl (rest := []) rfl (Nat.le_of_ble_eq_true rfl) ?_
      refine lv_iload_n hx hb dX8_closeChange_26 rfl (lv_at hl 1 rfl) ?_
      refine lv_bipush (v := -2) hx hb dX8_closeChange_27 (by decide) ?_
      refine lv_icmp_eq (tgt := 36) hx hb dX8_closeChange_29 (by decide) (fun c7 => ?_) (fun c7 => ?_)
      · have hV := jT1 hV c7
        refine lv_iconst (v := 0) hx hb dX8_closeChange_36 (by decide) ?_
        exact B_Y8_closeChange_37 C hA N B r   M v1 (0 : Int32) _ _ _ hP hD hS (lv_sub hl [0, 1] rfl) hV
      · have hV := jF1 hV c7
        refine lv_iconst (v := 1) hx hb dX8_closeChange_32 (by decide) ?_
        refine lv_goto (tgt := 37) hx hb dX8_closeChange_33 (by decide) ?_
        exact B_Y8_closeChange_37 C hA N B r   M v1 (1 : Int32) _ _ _ hP hD hS (lv_sub hl [0, 1] rfl) hV
  · have hV := jF1 hV c12
    refine lv_aload_n hx hb dX8_closeChange_4 rfl (lv_at hl 0 rfl) ?_
    refine va_get (D := D) (ci := 10) (v := .ref (B 9 1)) (C := RX8) (T := TX8) (N := 8) hx hb hts ju_X8 hown hK hP 0 rfl rfl 2 (by decide) (hts _ jq_2_0) (fun _ h9 => h9) rfl dX8_closeChange_5 ?_
    refine jVmV C dX8_closeChange_8 (kt_X0_close l D G B  M ) jy_X0_close jq_11_11 jq_11_12 jq_11_13 ⟨rfl, rfl, Nat.le_of_ble_eq_true rfl, Nat.le_of_ble_eq_true rfl⟩ ⟨Nat.le_of_ble_eq_true rfl, Nat.le_of_ble_eq_true rfl⟩ hP hD hA hS (ci := 2) (iw := 1) rfl rfl rfl hl (rest := []) rfl (Nat.le_of_ble_eq_true rfl) (fun H locs hQ hz hkp hS => ?_)
    obtain ⟨M10, e11, hV⟩ := jLet hV
    have hP : va_P D vwCl (wTS B G M10) H := by rw [e11]; exact jHist hP hD hkp hQ
    have hD : va_D A (wTS B G M10) := jD (w := (wTS B G M)) (dTS _ _) hD
    refine lv_iload_n hx hb dX8_closeChange_11 rfl (lv_at hl 1 rfl) ?_
    cases hV
    exact mRet C rfl dX8_closeChange_12 rfl rfl hP hS
def F_Y8_addProduction (N : Nat)  (M : Nat → Nat → Nat → Int32) (v1 v2 v3 v4 : Int32) : Option (Int32 × (Nat → Nat → Nat → Int32)) := (jlet (hOpen M) (fun M2 => ((F_X6_makeProduction N (M2 0) v1 v2 v3 v4).bind (fun r3 => (jlet (u1 M2 0 r3.2) (fun M4 => ((F_Y8_closeChange N M4 r3.1).bind (fun r5 => (some (r5.1, r5.2))))))))))
set_option maxHeartbeats 4000000 in
set_option maxRecDepth 100000 in
theorem k_Y8_addProduction (l : Launch) (D : va_G) (G : Nat → ClassId) (B : Nat → Nat → Nat) (N : Nat) (M : Nat → Nat → Nat → Int32) (v1 v2 v3 v4 : Int32) (r : (Int32 × (Nat → Nat → Nat → Int32))) (hV : F_Y8_addProduction N  M v1 v2 v3 v4 = some r) : mM l yX8_addProduction (jws yX8_addProduction cX8_addProduction 5 (some .int)) ({ frames := 6, cells := 0, slots := 0, locals := 211 } : Room) [.ref (B 9 0), .int v1, .int v2, .int v3, .int v4] D G (wTS B G M) (wTS B G r.2) (some (.int r.1)) := by
  refine mM_of (by decide +kernel) (Nat.le_of_ble_eq_true rfl) (fun p e s m args below meth c ls A C hP hD hA hl => ?_)
  have C : Cx p s m args meth c cX8_addProduction 5 RX8 (some .int) D G := C
  have hS : va_S A s.heap s.heap [] := va_S.rf
  obtain ⟨hx, hb, hr, hml, hts, hown, hlocks, hK0⟩ := id C
  have hK := hK0.1
  have hl : lv_has ls 5 [(0, .ref (B 9 0)), (1, .int v1), (2, .int v2), (3, .int v3), (4, .int v4)] := hl
  rw [F_Y8_addProduction] at hV
  refine lv_aload_n hx hb dX8_addProduction_0 rfl (lv_at hl 0 rfl) ?_
  refine va_get (D := D) (ci := 10) (v := .ref (B 9 1)) (C := RX8) (T := TX8) (N := 8) hx hb hts ju_X8 hown hK hP 0 rfl rfl 2 (by decide) (hts _ jq_2_0) (fun _ h9 => h9) rfl dX8_addProduction_1 ?_
  refine lv_aload_n hx hb dX8_addProduction_4 rfl (lv_at hl 0 rfl) ?_
  refine va_get (D := D) (ci := 10) (v := .ref (B 0 0)) (C := RX8) (T := TX8) (N := 8) hx hb hts ju_X8 hown hK hP 0 rfl rfl 0 (by decide) (hts _ jq_1_19) (fun _ h9 => h9) rfl dX8_addProduction_5 ?_
  refine jVmV C dX8_addProduction_8 (kt_X0_open l D G B  M ) jy_X0_open jq_8_14 jq_8_15 jq_8_16 ⟨rfl, rfl, Nat.le_of_ble_eq_true rfl, Nat.le_of_ble_eq_true rfl⟩ ⟨Nat.le_of_ble_eq_true rfl, Nat.le_of_ble_eq_true rfl⟩ hP hD hA hS (ci := 2) (iw := 1) rfl rfl rfl hl (rest := []) rfl (Nat.le_of_ble_eq_true rfl) (fun H locs hQ hz hkp hS => ?_)
  obtain ⟨M2, e7, hV⟩ := jLet hV
  have hP : va_P D vwCl (wTS B G M2) H := by rw [e7]; exact jHist hP hD hkp hQ
  have hD : va_D A (wTS B G M2) := jD (w := (wTS B G M)) (dTS _ _) hD
  refine lv_aload_n hx hb dX8_addProduction_11 rfl (lv_at hl 0 rfl) ?_
  refine lv_aload_n hx hb dX8_addProduction_12 rfl (lv_at hl 0 rfl) ?_
  refine va_get (D := D) (ci := 10) (v := .ref (B 0 0)) (C := RX8) (T := TX8) (N := 8) hx hb hts ju_X8 hown hK hP 0 rfl rfl 0 (by decide) (hts _ jq_1_19) (fun _ h9 => h9) rfl dX8_addProduction_13 ?_
  refine lv_iload_n hx hb dX8_addProduction_16 rfl (lv_at hl 1 rfl) ?_
  refine lv_iload_n hx hb dX8_addProduction_17 rfl (lv_at hl 2 rfl) ?_
  refine lv_iload_n hx hb dX8_addProduction_18 rfl (lv_at hl 3 rfl) ?_
  refine lv_iload hx hb dX8_addProduction_19 (lv_at hl 4 rfl) ?_
  obtain ⟨r3, hr3, hV⟩ := jBind hV
  refine jVmI C dX8_addProduction_21 (k_X6_makeProduction l D G (B 0) N (M2 0) v1 v2 v3 v4 r3 hr3) jy_X6_makeProduction jq_10_16 jq_10_17 jq_10_18 ⟨rfl, rfl, Nat.le_of_ble_eq_true rfl, Nat.le_of_ble_eq_true rfl⟩ ⟨Nat.le_of_ble_eq_true rfl, Nat.le_of_ble_eq_true rfl⟩ (sTS_0 hP) (dTS_0 hD) hA hS (ci := 8) (iw := 0) rfl rfl rfl hl (rest := [.ref (B 9 0)]) rfl (Nat.le_of_ble_eq_true rfl) (fun H locs hQ hz hkp hS => ?_)
  obtain ⟨M4, e6, hV⟩ := jLet hV
  have hP : va_P D vwCl (wTS B G M4) H := by rw [e6]; exact jTS_0 hP hD hkp hQ
  have hD : va_D A (wTS B G M4) := jD (w := (wTS B G M2)) (dTS _ _) hD
  obtain ⟨r5, hr5, hV⟩ := jBind hV
  refine jVmI C dX8_addProduction_24 (k_Y8_closeChange l D G B N M4 r3.1 r5 hr5) jy_X8_closeChange jq_11_3 jq_11_4 jq_11_5 ⟨rfl, rfl, Nat.le_of_ble_eq_true rfl, Nat.le_of_ble_eq_true rfl⟩ ⟨Nat.le_of_ble_eq_true rfl, Nat.le_of_ble_eq_true rfl⟩ hP hD hA hS (ci := 10) (iw := 0) rfl rfl rfl hl (rest := []) rfl (Nat.le_of_ble_eq_true rfl) (fun H locs hQ hz hkp hS => ?_)
  have hP : va_P D vwCl (wTS B G r5.2) H := hQ
  have hD : va_D A (wTS B G r5.2) := jD (w := (wTS B G M4)) (dTS _ _) hD
  cases hV
  exact mRet C rfl dX8_addProduction_27 rfl rfl hP hS
def F_Y8_subscribe (N : Nat)  (M : Nat → Nat → Nat → Int32) (v1 : Int32) : Option (Int32 × (Nat → Nat → Nat → Int32)) := (jlet (hOpen M) (fun M2 => ((F_X6_makeSubscription N (M2 0) v1).bind (fun r3 => (jlet (u1 M2 0 r3.2) (fun M4 => ((F_Y8_closeChange N M4 r3.1).bind (fun r5 => (some (r5.1, r5.2))))))))))
set_option maxHeartbeats 4000000 in
set_option maxRecDepth 100000 in
theorem k_Y8_subscribe (l : Launch) (D : va_G) (G : Nat → ClassId) (B : Nat → Nat → Nat) (N : Nat) (M : Nat → Nat → Nat → Int32) (v1 : Int32) (r : (Int32 × (Nat → Nat → Nat → Int32))) (hV : F_Y8_subscribe N  M v1 = some r) : mM l yX8_subscribe (jws yX8_subscribe cX8_subscribe 2 (some .int)) ({ frames := 6, cells := 0, slots := 0, locals := 211 } : Room) [.ref (B 9 0), .int v1] D G (wTS B G M) (wTS B G r.2) (some (.int r.1)) := by
  refine mM_of (by decide +kernel) (Nat.le_of_ble_eq_true rfl) (fun p e s m args below meth c ls A C hP hD hA hl => ?_)
  have C : Cx p s m args meth c cX8_subscribe 2 RX8 (some .int) D G := C
  have hS : va_S A s.heap s.heap [] := va_S.rf
  obtain ⟨hx, hb, hr, hml, hts, hown, hlocks, hK0⟩ := id C
  have hK := hK0.1
  have hl : lv_has ls 2 [(0, .ref (B 9 0)), (1, .int v1)] := hl
  rw [F_Y8_subscribe] at hV
  refine lv_aload_n hx hb dX8_subscribe_0 rfl (lv_at hl 0 rfl) ?_
  refine va_get (D := D) (ci := 10) (v := .ref (B 9 1)) (C := RX8) (T := TX8) (N := 8) hx hb hts ju_X8 hown hK hP 0 rfl rfl 2 (by decide) (hts _ jq_2_0) (fun _ h9 => h9) rfl dX8_subscribe_1 ?_
  refine lv_aload_n hx hb dX8_subscribe_4 rfl (lv_at hl 0 rfl) ?_
  refine va_get (D := D) (ci := 10) (v := .ref (B 0 0)) (C := RX8) (T := TX8) (N := 8) hx hb hts ju_X8 hown hK hP 0 rfl rfl 0 (by decide) (hts _ jq_1_19) (fun _ h9 => h9) rfl dX8_subscribe_5 ?_
  refine jVmV C dX8_subscribe_8 (kt_X0_open l D G B  M ) jy_X0_open jq_8_14 jq_8_15 jq_8_16 ⟨rfl, rfl, Nat.le_of_ble_eq_true rfl, Nat.le_of_ble_eq_true rfl⟩ ⟨Nat.le_of_ble_eq_true rfl, Nat.le_of_ble_eq_true rfl⟩ hP hD hA hS (ci := 2) (iw := 1) rfl rfl rfl hl (rest := []) rfl (Nat.le_of_ble_eq_true rfl) (fun H locs hQ hz hkp hS => ?_)
  obtain ⟨M2, e7, hV⟩ := jLet hV
  have hP : va_P D vwCl (wTS B G M2) H := by rw [e7]; exact jHist hP hD hkp hQ
  have hD : va_D A (wTS B G M2) := jD (w := (wTS B G M)) (dTS _ _) hD
  refine lv_aload_n hx hb dX8_subscribe_11 rfl (lv_at hl 0 rfl) ?_
  refine lv_aload_n hx hb dX8_subscribe_12 rfl (lv_at hl 0 rfl) ?_
  refine va_get (D := D) (ci := 10) (v := .ref (B 0 0)) (C := RX8) (T := TX8) (N := 8) hx hb hts ju_X8 hown hK hP 0 rfl rfl 0 (by decide) (hts _ jq_1_19) (fun _ h9 => h9) rfl dX8_subscribe_13 ?_
  refine lv_iload_n hx hb dX8_subscribe_16 rfl (lv_at hl 1 rfl) ?_
  obtain ⟨r3, hr3, hV⟩ := jBind hV
  refine jVmI C dX8_subscribe_17 (k_X6_makeSubscription l D G (B 0) N (M2 0) v1 r3 hr3) jy_X6_makeSubscription jq_15_4 jq_15_5 jq_15_6 ⟨rfl, rfl, Nat.le_of_ble_eq_true rfl, Nat.le_of_ble_eq_true rfl⟩ ⟨Nat.le_of_ble_eq_true rfl, Nat.le_of_ble_eq_true rfl⟩ (sTS_0 hP) (dTS_0 hD) hA hS (ci := 8) (iw := 0) rfl rfl rfl hl (rest := [.ref (B 9 0)]) rfl (Nat.le_of_ble_eq_true rfl) (fun H locs hQ hz hkp hS => ?_)
  obtain ⟨M4, e6, hV⟩ := jLet hV
  have hP : va_P D vwCl (wTS B G M4) H := by rw [e6]; exact jTS_0 hP hD hkp hQ
  have hD : va_D A (wTS B G M4) := jD (w := (wTS B G M2)) (dTS _ _) hD
  obtain ⟨r5, hr5, hV⟩ := jBind hV
  refine jVmI C dX8_subscribe_20 (k_Y8_closeChange l D G B N M4 r3.1 r5 hr5) jy_X8_closeChange jq_11_3 jq_11_4 jq_11_5 ⟨rfl, rfl, Nat.le_of_ble_eq_true rfl, Nat.le_of_ble_eq_true rfl⟩ ⟨Nat.le_of_ble_eq_true rfl, Nat.le_of_ble_eq_true rfl⟩ hP hD hA hS (ci := 10) (iw := 0) rfl rfl rfl hl (rest := []) rfl (Nat.le_of_ble_eq_true rfl) (fun H locs hQ hz hkp hS => ?_)
  have hP : va_P D vwCl (wTS B G r5.2) H := hQ
  have hD : va_D A (wTS B G r5.2) := jD (w := (wTS B G M4)) (dTS _ _) hD
  cases hV
  exact mRet C rfl dX8_subscribe_23 rfl rfl hP hS
theorem jy_L_cell : jY yL_cell cL_cell 2 (some .int) 2 := ⟨by decide +kernel, jq_8_9, jq_8_2⟩
set_option maxHeartbeats 4000000 in
set_option maxRecDepth 100000 in
theorem ks_cell (l : Launch) (D : va_G) (G : Nat → ClassId) (b L : Nat) (xs : Nat → Int32) (hL : L ≤ 260) (k : Nat) (hk : k < 1000) : sP l yL_cell (jws yL_cell cL_cell 2 (some .int)) ({ frames := 0, cells := 0, slots := 0, locals := 0 } : Room) [.ref b, .int (nI k)] D G b L xs (some (.int (clV L xs k))) := by
  refine sP_of (by decide +kernel) (Nat.le_of_ble_eq_true rfl) (fun p e s m args below meth c ls C hX hbl hl => ?_)
  have C : Cx p s m args meth c cL_cell 2 RL (some .int) D G := C
  obtain ⟨hx, hb, hr, hml, hts, hown, hlocks, hK0⟩ := id C
  have hS : va_S nofree s.heap s.heap [] := va_S.rf
  have hbA : ¬ nofree b := fun h => h
  have hl : lv_has ls 2 [(0, .ref b), (1, .int (nI k))] := hl
  have e1 : (nI k).toInt = k := Int32.toInt_ofNat_of_lt (by omega)
  have e2 : (Int32.ofNat L).toInt = L := Int32.toInt_ofNat_of_lt (by omega)
  have e3 : (nI k).toNatClampNeg = k := by
    show (nI k).toInt.toNat = k
    rw [e1]; rfl
  refine lv_iload_n hx hb dL_cell_0 rfl (lv_at hl 1 rfl) ?_
  refine lv_aload_n hx hb dL_cell_1 rfl (lv_at hl 0 rfl) ?_
  refine va_slen hx hb hX hbl hbA hS dL_cell_2 ?_
  refine lv_icmp_ge (tgt := 12) hx hb dL_cell_3 (by decide) (fun h => ?_) (fun h => ?_)
  · have h2 : ¬ k < L := by
      rw [Int32.le_iff_toInt_le, e1, e2] at h
      omega
    refine lv_sipush (v := 7919) hx hb dL_cell_12 (by decide) ?_
    refine lv_iload_n hx hb dL_cell_15 rfl (lv_at hl 1 rfl) ?_
    refine lv_imul hx hb dL_cell_16 ?_
    refine lv_bipush (v := 12) hx hb dL_cell_17 (by decide) ?_
    refine lv_iadd hx hb dL_cell_19 ?_
    exact pRet C rfl dL_cell_20 rfl (by unfold clV; rw [if_neg h2]; rfl)
  · have h2 : k < L := by
      rw [Int32.le_iff_toInt_le, e1, e2] at h
      omega
    refine lv_aload_n hx hb dL_cell_6 rfl (lv_at hl 0 rfl) ?_
    refine lv_iload_n hx hb dL_cell_7 rfl (lv_at hl 1 rfl) ?_
    refine va_sld hx hb hX hbl hbA hS (i := nI k) (by rintro (h3 | h3); · rw [Int32.lt_iff_toInt_lt, e1] at h3; have e4 : (0 : Int32).toInt = 0 := rfl; omega
                                                      · rw [e3] at h3; omega) dL_cell_8 ?_
    rw [e3]
    refine lv_goto (tgt := 20) hx hb dL_cell_9 (by decide) ?_
    exact pRet C rfl dL_cell_20 rfl (by unfold clV; rw [if_pos h2])
theorem sm_rem (x : Int32) {n : Nat} (h0 : 0 < n) (hn : n < 1000) : ((x.toUInt32 >>> ((3 : Int32).toUInt32 &&& Int32.toUInt32 31)).toInt32) - ((x.toUInt32 >>> ((3 : Int32).toUInt32 &&& Int32.toUInt32 31)).toInt32) / nI n * nI n = nI (x.toUInt32.toNat / 8 % n) := by
  have e1 : (x.toUInt32 >>> ((3 : Int32).toUInt32 &&& Int32.toUInt32 31)).toNat = x.toUInt32.toNat / 8 := by
    rw [UInt32.toNat_shiftRight]
    show x.toUInt32.toNat >>> (3 % 32) = _
    rw [Nat.shiftRight_eq_div_pow]
  have hlt : x.toUInt32.toNat < 2 ^ 32 := UInt32.toNat_lt _
  generalize x.toUInt32.toNat = u at e1 hlt ⊢
  have e2 : (x.toUInt32 >>> ((3 : Int32).toUInt32 &&& Int32.toUInt32 31)).toInt32 = nI (u / 8) := by
    have : (x.toUInt32 >>> ((3 : Int32).toUInt32 &&& Int32.toUInt32 31)) = UInt32.ofNat (u / 8) := by
      apply UInt32.toNat_inj.mp
      rw [e1, UInt32.toNat_ofNat_of_lt' (by show u / 8 < 2 ^ 32; omega)]
    rw [this]
    rfl
  rw [e2]
  have hu : u / 8 < 2 ^ 31 := by omega
  generalize u / 8 = v at hu ⊢
  have ev : (nI v).toInt = v := Int32.toInt_ofNat_of_lt hu
  have en : (nI n).toInt = n := Int32.toInt_ofNat_of_lt (by omega)
  have hdm := Nat.div_add_mod v n
  have hd : v / n ≤ v := Nat.div_le_self _ _
  have hq : (nI v / nI n) = nI (v / n) := by
    apply Int32.toInt_inj.mp
    rw [Int32.toInt_div_of_ne_right _ _ (fun h => by have h2 := congrArg Int32.toInt h; rw [en] at h2; have h3 : (-1 : Int32).toInt = -1 := rfl; omega), ev, en, show (nI (v / n)).toInt = ((v / n : Nat) : Int) from Int32.toInt_ofNat_of_lt (by omega)]
    rw [Int.ofNat_tdiv]
  rw [hq]
  have hm : nI (v / n) * nI n = nI (v / n * n) := (Int32.ofNat_mul (v / n) n).symm
  rw [hm]
  have hs : v = v / n * n + v % n := by rw [Nat.mul_comm]; exact hdm.symm
  have hs2 : nI v = nI (v / n * n) + nI (v % n) := by
    have := Int32.ofNat_add (v / n * n) (v % n)
    rw [← hs] at this
    exact this
  rw [hs2, Int32.add_comm, Int32.add_sub_cancel]
theorem jy_L_some : jY yL_some cL_some 3 (some .int) 3 := ⟨by decide +kernel, jq_8_6, jq_8_2⟩
set_option maxHeartbeats 4000000 in
set_option maxRecDepth 100000 in
theorem ks_some (l : Launch) (D : va_G) (G : Nat → ClassId) (b L : Nat) (xs : Nat → Int32) (hL : L ≤ 260) (k n : Nat) (hk : k < 1000) (h0 : 0 < n) (hn : n < 1000) : sP l yL_some (jws yL_some cL_some 3 (some .int)) ({ frames := 1, cells := 0, slots := 0, locals := 40 } : Room) [.ref b, .int (nI k), .int (nI n)] D G b L xs (some (.int (nI (smV L xs k n)))) := by
  refine sP_of (by decide +kernel) (Nat.le_of_ble_eq_true rfl) (fun p e s m args below meth c ls C hX hbl hl => ?_)
  have C : Cx p s m args meth c cL_some 3 RL (some .int) D G := C
  obtain ⟨hx, hb, hr, hml, hts, hown, hlocks, hK0⟩ := id C
  have hS : va_S nofree s.heap s.heap [] := va_S.rf
  have hbA : ¬ nofree b := fun h => h
  have hl : lv_has ls 3 [(0, .ref b), (1, .int (nI k)), (2, .int (nI n))] := hl
  have en : (nI n).toInt = n := Int32.toInt_ofNat_of_lt (by omega)
  refine lv_aload_n hx hb dL_some_0 rfl (lv_at hl 0 rfl) ?_
  refine lv_iload_n hx hb dL_some_1 rfl (lv_at hl 1 rfl) ?_
  refine jSs C dL_some_2 (ks_cell l D G b L xs hL k hk) jy_L_cell jq_8_7 jq_8_8 ⟨rfl, rfl, Nat.le_of_ble_eq_true rfl, Nat.le_of_ble_eq_true rfl⟩ ⟨Nat.le_of_ble_eq_true rfl, Nat.le_of_ble_eq_true rfl⟩ hX hbl hbA hS hl (As := [.ref b, .int (nI k)]) (rest := []) rfl (Nat.le_of_ble_eq_true rfl) ?_
  refine W.eq (g2 := F0 m 5 ls [.int (clV L xs k)]) rfl ?_
  refine lv_iconst (v := 3) hx hb dL_some_5 (by decide) ?_
  refine lv_iushr hx hb dL_some_6 rfl ?_
  refine lv_iload_n hx hb dL_some_7 rfl (lv_at hl 2 rfl) ?_
  refine lv_irem hx hb dL_some_8 (fun h => by have h2 := congrArg Int32.toInt h; rw [en] at h2; have h3 : (0 : Int32).toInt = 0 := rfl; omega) ?_
  exact pRet C rfl dL_some_9 rfl (sm_rem (clV L xs k) h0 hn)
theorem hy_perform : hY yL_perform cL_perform 5 [(0, 7, 8, 19), (0, 7, 14, 21)] 4 := ⟨by decide +kernel, jq_12_9, jq_8_2⟩
set_option maxHeartbeats 4000000 in
set_option maxRecDepth 100000 in
theorem kh_perform (l : Launch) (hl0 : l.stackTraces = false) (D : va_G) (G : Nat → ClassId) (B : Nat → Nat → Nat) (ks va : Nat → Nat) (N : Nat) (S : Nat → Nat → Nat → Int32) (v1 v2 v3 : Int32) (r : Int32 × Int32 × (Nat → Nat → Nat → Int32)) (hV : F_X8_perform N S v1 v2 v3 = some r) (hk : r.1 = 0 ∨ r.1 = 3 ∨ r.1 = 4) (q : Int32) (hq : r.1 = 4 → F_Y8_reason N r.2.2 0 = some q) : hM l yL_perform (Cond.codeWith yL_perform cL_perform 5 (some .int) [(0, 7, 8, 19), (0, 7, 14, 21)] :: jw) ({ frames := 10, cells := 3, slots := 18, locals := 234 } : Room) [.ref (B 9 0), .int v1, .int v2, .int v3] D G ks va (wTS B G S) (wTS B G r.2.2) (if r.1 = 0 then r.2.1 else if r.1 = 3 then (-2000 : Int32) else (-1000 : Int32) - q) := by
  refine hM_of (by decide +kernel) (Nat.le_of_ble_eq_true rfl) (fun p e s m args below meth c ls A C htab hP hD hA hZ hC hl => ?_)
  have C : Cx p s m args meth c cL_perform 5 RL (some .int) D G := C
  obtain ⟨hx, hb, hr, hml, hts, hown, hlocks, hK0⟩ := id C
  have hK := hK0.1
  have hS : va_S A s.heap s.heap [] := va_S.rf
  have hl : lv_has ls 5 [(0, .ref (B 9 0)), (1, .int v1), (2, .int v2), (3, .int v3)] := hl
  refine lv_aload_n hx hb dL_perform_0 rfl (lv_at hl 0 rfl) ?_
  refine lv_iload_n hx hb dL_perform_1 rfl (lv_at hl 1 rfl) ?_
  refine lv_iload_n hx hb dL_perform_2 rfl (lv_at hl 2 rfl) ?_
  refine lv_iload_n hx hb dL_perform_3 rfl (lv_at hl 3 rfl) ?_
  refine jVx C dL_perform_4 (k_X8_perform l hl0 D G B ks va N S v1 v2 v3 r hV) jy_X8_perform jq_12_12 jq_12_13 jq_12_14 ⟨Nat.le_of_ble_eq_true rfl, Nat.le_of_ble_eq_true rfl⟩ ⟨Nat.le_of_ble_eq_true rfl, Nat.le_of_ble_eq_true rfl⟩ hZ hP hD hA hS (ci := 10) (iw := 0) rfl rfl rfl hl (As := [.int v1, .int v2, .int v3]) (rest := []) rfl (Nat.le_of_ble_eq_true rfl) (fun H1 locs hQ hz hkp hS => ?_)
  have hP : va_P D vwCl (wTS B G r.2.2) H1 := hQ
  clear hQ hz hkp
  refine ⟨fun hk0 => ?_, fun hkn ce a hce hcv hcl => ?_⟩
  · rw [if_pos hk0]
    exact hRet C dL_perform_7 (Nat.le_of_ble_eq_true rfl) (Nat.le_of_ble_eq_true rfl) hP hS
  · rw [if_neg hkn]
    rcases hk with hk | hk | hk
    · exact absurd hk hkn
    · rw [if_pos hk]
      rw [hk] at hcl
      have hcl : s.vm.findClass "java/lang/IllegalStateException" = some ce.cls := hcl
      refine vx_catch (own := RL) (name := "java/lang/IllegalStateException") (E := "java/lang/IllegalStateException") hown [] (⟨0, 7, 8, 19⟩ : ExceptionTableEntry) [(⟨0, 7, 14, 21⟩ : ExceptionTableEntry)] (htab.trans rfl) ?_ rfl (by decide : (19 : Nat) ≠ 0) (hts _ jq_12_10) (va_Nw.use rfl (hK0.2 _ jn_55)) hce hcv hcl ?_
      · intro z hz
        exact absurd hz List.not_mem_nil
      · refine lv_astore (lv' := [(4, .ref a), (0, .ref (B 9 0)), (1, .int v1), (2, .int v2), (3, .int v3)]) hx hb dL_perform_8 hl (by decide) rfl (fun ls hl => ?_)
        refine lv_sipush (v := -2000) hx hb dL_perform_10 (by decide) ?_
        exact hRet C dL_perform_13 (Nat.le_of_ble_eq_true rfl) (Nat.le_of_ble_eq_true rfl) hP hS
    · rw [if_neg (show ¬ r.1 = 3 by rw [hk]; decide)]
      rw [hk] at hcl
      have hcl : s.vm.findClass "java/lang/UnsupportedOperationException" = some ce.cls := hcl
      refine vx_catch (own := RL) (name := "java/lang/UnsupportedOperationException") (E := "java/lang/UnsupportedOperationException") hown [(⟨0, 7, 8, 19⟩ : ExceptionTableEntry)] (⟨0, 7, 14, 21⟩ : ExceptionTableEntry) [] (htab.trans rfl) ?_ rfl (by decide : (21 : Nat) ≠ 0) (hts _ jq_12_11) (va_Nw.use rfl (hK0.2 _ jn_56)) hce hcv hcl ?_
      · intro z hz
        rcases List.mem_cons.mp hz with rfl | hz
        · exact Or.inr ⟨(by decide : (19 : Nat) ≠ 0), "java/lang/IllegalStateException", hts _ jq_12_10, hC⟩
        exact absurd hz List.not_mem_nil
      · refine lv_astore (lv' := [(4, .ref a), (0, .ref (B 9 0)), (1, .int v1), (2, .int v2), (3, .int v3)]) hx hb dL_perform_14 hl (by decide) rfl (fun ls hl => ?_)
        refine lv_sipush (v := -1000) hx hb dL_perform_16 (by decide) ?_
        refine lv_aload_n hx hb dL_perform_19 rfl (lv_at hl 1 rfl) ?_
        refine lv_iconst (v := 0) hx hb dL_perform_20 (by decide) ?_
        refine jVpI C dL_perform_21 (k_Y8_reason l D G B N r.2.2 0 q (hq hk)) jy_X8_reason jq_14_18 jq_14_19 jq_14_20 ⟨rfl, rfl, Nat.le_of_ble_eq_true rfl, Nat.le_of_ble_eq_true rfl⟩ ⟨Nat.le_of_ble_eq_true rfl, Nat.le_of_ble_eq_true rfl⟩ hP (ci := 10) (iw := 0) rfl rfl rfl hl (As := [.int 0]) (rest := [.int (-1000)]) rfl (Nat.le_of_ble_eq_true rfl) ?_
        refine lv_isub hx hb dL_perform_24 ?_
        exact hRet C dL_perform_25 (Nat.le_of_ble_eq_true rfl) (Nat.le_of_ble_eq_true rfl) hP hS
theorem hy_sell : hY yL_sell cL_sell 4 [(0, 6, 7, 21)] 3 := ⟨by decide +kernel, jq_17_8, jq_8_2⟩
set_option maxHeartbeats 4000000 in
set_option maxRecDepth 100000 in
theorem kh_sell (l : Launch) (hl0 : l.stackTraces = false) (D : va_G) (G : Nat → ClassId) (B : Nat → Nat → Nat) (ks va : Nat → Nat) (N : Nat) (S : Nat → Nat → Nat → Int32) (v1 v2 : Int32) (r : Int32 × Int32 × (Nat → Nat → Nat → Int32)) (hV : F_X8_sell N S v1 v2 = some r) (hk : r.1 = 0 ∨ r.1 = 4) (q : Int32) (hq : r.1 = 4 → F_Y8_reason N r.2.2 0 = some q) : hM l yL_sell (Cond.codeWith yL_sell cL_sell 4 (some .int) [(0, 6, 7, 21)] :: jw) ({ frames := 10, cells := 3, slots := 18, locals := 233 } : Room) [.ref (B 9 0), .int v1, .int v2] D G ks va (wTS B G S) (wTS B G r.2.2) (if r.1 = 0 then r.2.1 else (-1000 : Int32) - q) := by
  refine hM_of (by decide +kernel) (Nat.le_of_ble_eq_true rfl) (fun p e s m args below meth c ls A C htab hP hD hA hZ hC hl => ?_)
  have C : Cx p s m args meth c cL_sell 4 RL (some .int) D G := C
  obtain ⟨hx, hb, hr, hml, hts, hown, hlocks, hK0⟩ := id C
  have hK := hK0.1
  have hS : va_S A s.heap s.heap [] := va_S.rf
  have hl : lv_has ls 4 [(0, .ref (B 9 0)), (1, .int v1), (2, .int v2)] := hl
  refine lv_aload_n hx hb dL_sell_0 rfl (lv_at hl 0 rfl) ?_
  refine lv_iload_n hx hb dL_sell_1 rfl (lv_at hl 1 rfl) ?_
  refine lv_iload_n hx hb dL_sell_2 rfl (lv_at hl 2 rfl) ?_
  refine jVx C dL_sell_3 (k_X8_sell l hl0 D G B ks va N S v1 v2 r hV) jy_X8_sell jq_17_9 jq_17_10 jq_17_11 ⟨Nat.le_of_ble_eq_true rfl, Nat.le_of_ble_eq_true rfl⟩ ⟨Nat.le_of_ble_eq_true rfl, Nat.le_of_ble_eq_true rfl⟩ hZ hP hD hA hS (ci := 10) (iw := 0) rfl rfl rfl hl (As := [.int v1, .int v2]) (rest := []) rfl (Nat.le_of_ble_eq_true rfl) (fun H1 locs hQ hz hkp hS => ?_)
  have hP : va_P D vwCl (wTS B G r.2.2) H1 := hQ
  clear hQ hz hkp
  refine ⟨fun hk0 => ?_, fun hkn ce a hce hcv hcl => ?_⟩
  · rw [if_pos hk0]
    exact hRet C dL_sell_6 (Nat.le_of_ble_eq_true rfl) (Nat.le_of_ble_eq_true rfl) hP hS
  · rw [if_neg hkn]
    rcases hk with hk | hk
    · exact absurd hk hkn
    · rw [hk] at hcl
      have hcl : s.vm.findClass "java/lang/UnsupportedOperationException" = some ce.cls := hcl
      refine vx_catch (own := RL) (name := "java/lang/UnsupportedOperationException") (E := "java/lang/UnsupportedOperationException") hown [] (⟨0, 6, 7, 21⟩ : ExceptionTableEntry) [] (htab.trans rfl) ?_ rfl (by decide : (21 : Nat) ≠ 0) (hts _ jq_12_11) (va_Nw.use rfl (hK0.2 _ jn_56)) hce hcv hcl ?_
      · intro z hz
        exact absurd hz List.not_mem_nil
      · refine lv_astore_n (lv' := [(3, .ref a), (0, .ref (B 9 0)), (1, .int v1), (2, .int v2)]) hx hb dL_sell_7 rfl hl (by decide) rfl (fun ls hl => ?_)
        refine lv_sipush (v := -1000) hx hb dL_sell_8 (by decide) ?_
        refine lv_aload_n hx hb dL_sell_11 rfl (lv_at hl 1 rfl) ?_
        refine lv_iconst (v := 0) hx hb dL_sell_12 (by decide) ?_
        refine jVpI C dL_sell_13 (k_Y8_reason l D G B N r.2.2 0 q (hq hk)) jy_X8_reason jq_14_18 jq_14_19 jq_14_20 ⟨rfl, rfl, Nat.le_of_ble_eq_true rfl, Nat.le_of_ble_eq_true rfl⟩ ⟨Nat.le_of_ble_eq_true rfl, Nat.le_of_ble_eq_true rfl⟩ hP (ci := 10) (iw := 0) rfl rfl rfl hl (As := [.int 0]) (rest := [.int (-1000)]) rfl (Nat.le_of_ble_eq_true rfl) ?_
        refine lv_isub hx hb dL_sell_16 ?_
        exact hRet C dL_sell_17 (Nat.le_of_ble_eq_true rfl) (Nat.le_of_ble_eq_true rfl) hP hS
theorem hy_request : hY yL_request cL_request 5 [(0, 7, 8, 21)] 4 := ⟨by decide +kernel, jq_17_20, jq_8_2⟩
set_option maxHeartbeats 4000000 in
set_option maxRecDepth 100000 in
theorem kh_request (l : Launch) (hl0 : l.stackTraces = false) (D : va_G) (G : Nat → ClassId) (B : Nat → Nat → Nat) (ks va : Nat → Nat) (N : Nat) (S : Nat → Nat → Nat → Int32) (v1 v2 v3 : Int32) (r : Int32 × Int32 × (Nat → Nat → Nat → Int32)) (hV : F_X8_request N S v1 v2 v3 = some r) (hk : r.1 = 0 ∨ r.1 = 4) (q : Int32) (hq : r.1 = 4 → F_Y8_reason N r.2.2 0 = some q) : hM l yL_request (Cond.codeWith yL_request cL_request 5 (some .int) [(0, 7, 8, 21)] :: jw) ({ frames := 10, cells := 3, slots := 18, locals := 234 } : Room) [.ref (B 9 0), .int v1, .int v2, .int v3] D G ks va (wTS B G S) (wTS B G r.2.2) (if r.1 = 0 then r.2.1 else (-1000 : Int32) - q) := by
  refine hM_of (by decide +kernel) (Nat.le_of_ble_eq_true rfl) (fun p e s m args below meth c ls A C htab hP hD hA hZ hC hl => ?_)
  have C : Cx p s m args meth c cL_request 5 RL (some .int) D G := C
  obtain ⟨hx, hb, hr, hml, hts, hown, hlocks, hK0⟩ := id C
  have hK := hK0.1
  have hS : va_S A s.heap s.heap [] := va_S.rf
  have hl : lv_has ls 5 [(0, .ref (B 9 0)), (1, .int v1), (2, .int v2), (3, .int v3)] := hl
  refine lv_aload_n hx hb dL_request_0 rfl (lv_at hl 0 rfl) ?_
  refine lv_iload_n hx hb dL_request_1 rfl (lv_at hl 1 rfl) ?_
  refine lv_iload_n hx hb dL_request_2 rfl (lv_at hl 2 rfl) ?_
  refine lv_iload_n hx hb dL_request_3 rfl (lv_at hl 3 rfl) ?_
  refine jVx C dL_request_4 (k_X8_request l hl0 D G B ks va N S v1 v2 v3 r hV) jy_X8_request jq_17_21 jq_17_22 jq_17_23 ⟨Nat.le_of_ble_eq_true rfl, Nat.le_of_ble_eq_true rfl⟩ ⟨Nat.le_of_ble_eq_true rfl, Nat.le_of_ble_eq_true rfl⟩ hZ hP hD hA hS (ci := 10) (iw := 0) rfl rfl rfl hl (As := [.int v1, .int v2, .int v3]) (rest := []) rfl (Nat.le_of_ble_eq_true rfl) (fun H1 locs hQ hz hkp hS => ?_)
  have hP : va_P D vwCl (wTS B G r.2.2) H1 := hQ
  clear hQ hz hkp
  refine ⟨fun hk0 => ?_, fun hkn ce a hce hcv hcl => ?_⟩
  · rw [if_pos hk0]
    exact hRet C dL_request_7 (Nat.le_of_ble_eq_true rfl) (Nat.le_of_ble_eq_true rfl) hP hS
  · rw [if_neg hkn]
    rcases hk with hk | hk
    · exact absurd hk hkn
    · rw [hk] at hcl
      have hcl : s.vm.findClass "java/lang/UnsupportedOperationException" = some ce.cls := hcl
      refine vx_catch (own := RL) (name := "java/lang/UnsupportedOperationException") (E := "java/lang/UnsupportedOperationException") hown [] (⟨0, 7, 8, 21⟩ : ExceptionTableEntry) [] (htab.trans rfl) ?_ rfl (by decide : (21 : Nat) ≠ 0) (hts _ jq_12_11) (va_Nw.use rfl (hK0.2 _ jn_56)) hce hcv hcl ?_
      · intro z hz
        exact absurd hz List.not_mem_nil
      · refine lv_astore (lv' := [(4, .ref a), (0, .ref (B 9 0)), (1, .int v1), (2, .int v2), (3, .int v3)]) hx hb dL_request_8 hl (by decide) rfl (fun ls hl => ?_)
        refine lv_sipush (v := -1000) hx hb dL_request_10 (by decide) ?_
        refine lv_aload_n hx hb dL_request_13 rfl (lv_at hl 1 rfl) ?_
        refine lv_iconst (v := 0) hx hb dL_request_14 (by decide) ?_
        refine jVpI C dL_request_15 (k_Y8_reason l D G B N r.2.2 0 q (hq hk)) jy_X8_reason jq_14_18 jq_14_19 jq_14_20 ⟨rfl, rfl, Nat.le_of_ble_eq_true rfl, Nat.le_of_ble_eq_true rfl⟩ ⟨Nat.le_of_ble_eq_true rfl, Nat.le_of_ble_eq_true rfl⟩ hP (ci := 10) (iw := 0) rfl rfl rfl hl (As := [.int 0]) (rest := [.int (-1000)]) rfl (Nat.le_of_ble_eq_true rfl) ?_
        refine lv_isub hx hb dL_request_18 ?_
        exact hRet C dL_request_19 (Nat.le_of_ble_eq_true rfl) (Nat.le_of_ble_eq_true rfl) hP hS
theorem hy_hold : hY yL_hold cL_hold 4 [(0, 6, 7, 21)] 3 := ⟨by decide +kernel, jq_15_15, jq_8_2⟩
set_option maxHeartbeats 4000000 in
set_option maxRecDepth 100000 in
theorem kh_hold (l : Launch) (hl0 : l.stackTraces = false) (D : va_G) (G : Nat → ClassId) (B : Nat → Nat → Nat) (ks va : Nat → Nat) (N : Nat) (S : Nat → Nat → Nat → Int32) (v1 v2 : Int32) (r : Int32 × Int32 × (Nat → Nat → Nat → Int32)) (hV : F_X8_hold N S v1 v2 = some r) (hk : r.1 = 0 ∨ r.1 = 4) (q : Int32) (hq : r.1 = 4 → F_Y8_reason N r.2.2 0 = some q) : hM l yL_hold (Cond.codeWith yL_hold cL_hold 4 (some .int) [(0, 6, 7, 21)] :: jw) ({ frames := 10, cells := 3, slots := 18, locals := 233 } : Room) [.ref (B 9 0), .int v1, .int v2] D G ks va (wTS B G S) (wTS B G r.2.2) (if r.1 = 0 then r.2.1 else (-1000 : Int32) - q) := by
  refine hM_of (by decide +kernel) (Nat.le_of_ble_eq_true rfl) (fun p e s m args below meth c ls A C htab hP hD hA hZ hC hl => ?_)
  have C : Cx p s m args meth c cL_hold 4 RL (some .int) D G := C
  obtain ⟨hx, hb, hr, hml, hts, hown, hlocks, hK0⟩ := id C
  have hK := hK0.1
  have hS : va_S A s.heap s.heap [] := va_S.rf
  have hl : lv_has ls 4 [(0, .ref (B 9 0)), (1, .int v1), (2, .int v2)] := hl
  refine lv_aload_n hx hb dL_hold_0 rfl (lv_at hl 0 rfl) ?_
  refine lv_iload_n hx hb dL_hold_1 rfl (lv_at hl 1 rfl) ?_
  refine lv_iload_n hx hb dL_hold_2 rfl (lv_at hl 2 rfl) ?_
  refine jVx C dL_hold_3 (k_X8_hold l hl0 D G B ks va N S v1 v2 r hV) jy_X8_hold jq_15_16 jq_15_17 jq_15_18 ⟨Nat.le_of_ble_eq_true rfl, Nat.le_of_ble_eq_true rfl⟩ ⟨Nat.le_of_ble_eq_true rfl, Nat.le_of_ble_eq_true rfl⟩ hZ hP hD hA hS (ci := 10) (iw := 0) rfl rfl rfl hl (As := [.int v1, .int v2]) (rest := []) rfl (Nat.le_of_ble_eq_true rfl) (fun H1 locs hQ hz hkp hS => ?_)
  have hP : va_P D vwCl (wTS B G r.2.2) H1 := hQ
  clear hQ hz hkp
  refine ⟨fun hk0 => ?_, fun hkn ce a hce hcv hcl => ?_⟩
  · rw [if_pos hk0]
    exact hRet C dL_hold_6 (Nat.le_of_ble_eq_true rfl) (Nat.le_of_ble_eq_true rfl) hP hS
  · rw [if_neg hkn]
    rcases hk with hk | hk
    · exact absurd hk hkn
    · rw [hk] at hcl
      have hcl : s.vm.findClass "java/lang/UnsupportedOperationException" = some ce.cls := hcl
      refine vx_catch (own := RL) (name := "java/lang/UnsupportedOperationException") (E := "java/lang/UnsupportedOperationException") hown [] (⟨0, 6, 7, 21⟩ : ExceptionTableEntry) [] (htab.trans rfl) ?_ rfl (by decide : (21 : Nat) ≠ 0) (hts _ jq_12_11) (va_Nw.use rfl (hK0.2 _ jn_56)) hce hcv hcl ?_
      · intro z hz
        exact absurd hz List.not_mem_nil
      · refine lv_astore_n (lv' := [(3, .ref a), (0, .ref (B 9 0)), (1, .int v1), (2, .int v2)]) hx hb dL_hold_7 rfl hl (by decide) rfl (fun ls hl => ?_)
        refine lv_sipush (v := -1000) hx hb dL_hold_8 (by decide) ?_
        refine lv_aload_n hx hb dL_hold_11 rfl (lv_at hl 1 rfl) ?_
        refine lv_iconst (v := 0) hx hb dL_hold_12 (by decide) ?_
        refine jVpI C dL_hold_13 (k_Y8_reason l D G B N r.2.2 0 q (hq hk)) jy_X8_reason jq_14_18 jq_14_19 jq_14_20 ⟨rfl, rfl, Nat.le_of_ble_eq_true rfl, Nat.le_of_ble_eq_true rfl⟩ ⟨Nat.le_of_ble_eq_true rfl, Nat.le_of_ble_eq_true rfl⟩ hP (ci := 10) (iw := 0) rfl rfl rfl hl (As := [.int 0]) (rest := [.int (-1000)]) rfl (Nat.le_of_ble_eq_true rfl) ?_
        refine lv_isub hx hb dL_hold_16 ?_
        exact hRet C dL_hold_17 (Nat.le_of_ble_eq_true rfl) (Nat.le_of_ble_eq_true rfl) hP hS
