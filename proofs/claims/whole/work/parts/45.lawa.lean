/-! the law's body -/
def lwW (a : Nat → Nat) (B : Nat → Nat → Nat) (G : Nat → ClassId) (o1 o2 : Nat) (S : Nat → Nat → Nat → Int32) (M : Nat → Nat → Int32) (f1 : Nat → Int64) (f2 : Nat → UInt64) : va_W := wM a G M ++ (wTS B G S ++ ([((o1, .inl (G 3, 1, .inr (.inl f1))) : Nat × va_E)] ++ [((o2, .inl (G 4, 1, .inr (.inr (.inr (.inl f2))))) : Nat × va_E)]))
theorem permY {α : Type} (p q : List α) (x y : α) : (p ++ (q ++ ([x] ++ [y]))).Perm (p ++ ((q ++ [y]) ++ [x])) := by
  classical
  rw [List.perm_iff_count]
  intro z
  simp only [List.count_append]
  omega
section LWW
variable {a : Nat → Nat} {B : Nat → Nat → Nat} {G : Nat → ClassId} {o1 o2 : Nat} {S : Nat → Nat → Nat → Int32} {M : Nat → Nat → Int32} {f1 : Nat → Int64} {f2 : Nat → UInt64} {D : va_G} {A : Nat → Prop} {H : Heap}
theorem lwW_1 : lwW a B G o1 o2 S M f1 f2 = wM a G M ++ ((wTS B G S ++ [((o1, .inl (G 3, 1, .inr (.inl f1))) : Nat × va_E)]) ++ [((o2, .inl (G 4, 1, .inr (.inr (.inr (.inl f2))))) : Nat × va_E)]) := by
  unfold lwW; rw [List.append_assoc (wTS B G S)]
theorem lwW_p : (lwW a B G o1 o2 S M f1 f2).Perm (wM a G M ++ ((wTS B G S ++ [((o2, .inl (G 4, 1, .inr (.inr (.inr (.inl f2))))) : Nat × va_E)]) ++ [((o1, .inl (G 3, 1, .inr (.inl f1))) : Nat × va_E)])) := permY _ _ _ _
theorem lwP_2 (h : va_P D vwCl (lwW a B G o1 o2 S M f1 f2) H) : va_P D vwCl (wM a G M ++ ((wTS B G S ++ [((o2, .inl (G 4, 1, .inr (.inr (.inr (.inl f2))))) : Nat × va_E)]) ++ [((o1, .inl (G 3, 1, .inr (.inl f1))) : Nat × va_E)])) H := jSubP (fun x hx => lwW_p.mem_iff.mpr hx) h
theorem lwP_2b (h : va_P D vwCl (wM a G M ++ ((wTS B G S ++ [((o2, .inl (G 4, 1, .inr (.inr (.inr (.inl f2))))) : Nat × va_E)]) ++ [((o1, .inl (G 3, 1, .inr (.inl f1))) : Nat × va_E)])) H) : va_P D vwCl (lwW a B G o1 o2 S M f1 f2) H := jSubP (fun x hx => lwW_p.mem_iff.mp hx) h
theorem lwD_2 (h : va_D A (lwW a B G o1 o2 S M f1 f2)) : va_D A (wM a G M ++ ((wTS B G S ++ [((o2, .inl (G 4, 1, .inr (.inr (.inr (.inl f2))))) : Nat × va_E)]) ++ [((o1, .inl (G 3, 1, .inr (.inl f1))) : Nat × va_E)])) :=
  jDnd.mpr ⟨(lwW_p.map Prod.fst).nodup_iff.mp (jDnd.mp h).1, fun x hx => (jDnd.mp h).2 x (lwW_p.mem_iff.mpr hx)⟩
theorem lwD {S' : Nat → Nat → Nat → Int32} {M' : Nat → Nat → Int32} {f1' : Nat → Int64} {f2' : Nat → UInt64} (h : va_D A (lwW a B G o1 o2 S M f1 f2)) : va_D A (lwW a B G o1 o2 S' M' f1' f2') := by
  refine jD ?_ h
  unfold lwW
  simp only [List.map_append, dTS S S']
  rfl
end LWW
theorem jAt1 {α : Type} (p q r : List α) (x : α) : (p ++ ((q ++ [x]) ++ r))[p.length + q.length]? = some x := by
  rw [List.getElem?_append_right (by omega), Nat.add_sub_cancel_left, List.append_assoc, List.getElem?_append_right (Nat.le_refl _), Nat.sub_self]; rfl
theorem lgc {x y : Int64} (h : x = y) : lg_cmp x y = 0 := by
  subst h
  unfold lg_cmp
  simp
section LWC
variable {p : Program} {l : Launch} {e : Env} {R : Room} {s : State} {m : MethodId} {args : Array Value} {below : List Frame} {meth : Method} {c : Code} {H : Heap} {locs : List Loc} {cells slots : Nat} {Q : State → Prop} {cc : ByteArray} {nL : Nat} {own : String} {ret : Option FieldType} {D : va_G} {G : Nat → ClassId} {pc : Nat} {ls : Array Slot} {A : Nat → Prop} {w w' : va_W}
  {y : MethodName} {bytes : ByteArray} {maxL index : Nat} {rm : Room} {As rest st0 : List Value} {r : Int32} {ks va : Nat → Nat} {hh : List (Nat × Nat × Nat × Nat)}
theorem jWriteC {g : JFrame} {args' : Array Value} {A1 : Nat → Prop} {mc ms : Nat} {ov : Option Value} (hr : va_Run p l e R s m args below meth c H locs cells slots mc ms g rest (mQ D w' ov A1 args') A1) (hS : va_S A s.heap H locs) (hA : ∀ q, A1 q → A q)
    (kk : ∀ (H1 : Heap) (locs1 : List Loc), va_P D vwCl w' H1 → H.size ≤ H1.size → (∀ q : Nat, q < H.size → ¬ A1 q → H1[q]? = H[q]?) → va_S A s.heap H1 locs1 → W p l e R s m args below meth c H1 locs1 (cells + mc) (slots + ms) Q { g with pc := g.pc + 3, stack := ov.toList ++ rest }) : W p l e R s m args below meth c H locs cells slots Q g := by
  intro T hT X
  obtain ⟨v, st₀, t, T', L, h0, X', hL, e1, e2, ⟨hv, hp, hz, hk⟩, st⟩ := hr T hT X
  cases hv
  rw [h0] at hz hk
  obtain ⟨t2, a1, b1⟩ := kk T'.heap (locs ++ L) (by rw [e1]; exact hp) (by rw [e1]; exact hz) (fun q h1 h2 => by rw [e1]; exact hk q h1 h2)
    ⟨Nat.le_trans hS.1 (by rw [e1]; exact hz), fun q h1 h2 => by rw [e1, hk q (Nat.lt_of_lt_of_le h1 hS.1) (fun z => h2 (hA q z))]; exact hS.2.1 q h1 h2, fun q hq => by
      rcases List.mem_append.mp hq with h | h
      · exact hS.2.2 q h
      · exact hA _ (hL q h)⟩ T' rfl X'
  exact ⟨t2, st t2 a1, b1⟩
def hY (y : MethodName) (cc : ByteArray) (maxL : Nat) (hh : List (Nat × Nat × Nat × Nat)) (n : Nat) : Prop :=
  (y.cls ≠ "java/lang/invoke/MethodHandle" ∧ y.cls ≠ "java/lang/invoke/VarHandle" ∧ (parseMethodDescriptor y.desc).map (fun d => d.parameters.length) = some n) ∧ Cond.codeWith y cc maxL (some .int) hh ∈ jw ∧ Cond.initialized y.cls ∈ jw
/-- a call of a helper -/
theorem jSh (C : Cx p s m args meth c cc nL own ret D G) (hdg : decode cc pc = .ok (.invokestatic index, 3)) (hM : hM l y (Cond.codeWith y bytes maxL (some .int) hh :: jw) rm As D G ks va w w' r) (hy : hY y bytes maxL hh As.length) (hl : Cond.methodLink own index y ∈ jw) (hi : Cond.static y ∈ jw)
    (hR : xRoom rm R maxL) (hcs : cells + rm.cells ≤ R.cells ∧ slots + rm.slots ≤ R.slots) (hZ : jZ ks va A s s.heap) (hC : jC s) (hP : va_P D vwCl w H) (hD : va_D A w) (hA : ∀ q : Nat, s.heap.size ≤ q → A q) (hS : va_S A s.heap H locs) {lv : List (Nat × Value)} (hlv : lv_has ls nL lv) (hst : st0 = As.reverse ++ rest) (hcat : (rest.map fun v => v.category).sum ≤ 8)
    (kk : ∀ (H1 : Heap) (locs1 : List Loc), va_P D vwCl w' H1 → H.size ≤ H1.size → (∀ q : Nat, q < H.size → ¬ va_A w H.size q → H1[q]? = H[q]?) → va_S A s.heap H1 locs1 → W p l e R s m args below meth c H1 locs1 (cells + rm.cells) (slots + rm.slots) Q (F0 m (pc + 3) ls (.int r :: rest))) : W p l e R s m args below meth c H locs cells slots Q (F0 m pc ls st0) := by
  have hAw : ∀ q, va_A w H.size q → A q := by
    intro q h
    rcases h with ⟨k, e, h⟩ | h
    · exact hD.2 k _ h
    · exact hA q (Nat.le_trans hS.1 h)
  have hG : GoodIn jw (va_wsS own index y (Cond.codeWith y bytes maxL (some .int) hh :: jw)) := by
    intro w hw
    have hm : w ∈ jw := by
      unfold va_wsS at hw
      rcases List.mem_append.mp hw with h | h
      · simp only [List.mem_cons, List.not_mem_nil, or_false] at h
        rcases h with rfl | rfl | rfl
        · exact hl
        · exact hi
        · exact hy.2.2
      · rcases List.mem_cons.mp h with rfl | h
        · exact hy.2.1
        · exact h
    exact ⟨hm, good_of_word (List.all_eq_true.mp jw_good w hm)⟩
  exact jWriteC (vx_runSW (rest := rest) (As := As) (jFix C) (hM H.size) (vx_cwSW As.length C.2.2.2.2.1 hG rfl rfl rfl hy.1 hR) ⟨fun a U g mk q => ⟨q.1, q.2.1, q.2.2.1, q.2.2.2.1.blind, q.2.2.2.2.1, q.2.2.2.2.2.1.blind, q.2.2.2.2.2.2.blind⟩, fun U hU hW => ⟨rfl, by rw [hU], by rw [hU]; exact hP, C.2.2.2.2.2.2.2.warm hW, hD.weaken (fun _ _ _ _ => trivial), by rw [hU]; exact ((hZ.kept hS.2.1).narrow hAw).warm hW, hC.warm hW⟩⟩ rfl rfl hlv.1 hst (lv_room hcat) hdg hcs) hS hAw kk
end LWC
theorem fp_cmp {x : UInt64} (h : vf_n64 x) : Op.cmpValue (FP.dcmp x x) CmpOp.l = 0 := by
  have h2 : FP.Core.val64 x ≠ .nan := by
    rw [FP.Core.ne_nan]
    unfold vf_n64 at h
    rw [UInt64.le_iff_toNat_le, UInt64.toNat_and] at h
    have e : (0x7fffffffffffffff : UInt64).toNat = 2 ^ 63 - 1 := rfl
    have e2 : (0x7ff0000000000000 : UInt64).toNat = 9218868437227405312 := rfl
    rw [e, e2, Nat.and_two_pow_sub_one_eq_mod] at h
    exact h
  rw [show FP.dcmp x x = some .eq from FP.Core.dcmp_self h2]
  rfl
def jE_setSeats (Rl : (Nat → Nat → Nat → Int32) → (Nat → Nat → Int32) → Prop) : Prop := ∀ (S : Nat → Nat → Nat → Int32) (M : Nat → Nat → Int32) (v1 v2 : Int32), Rl S M → ∃ (N1 : Nat) (rc : _) (N2 : Nat) (rm : _), F_X8_setSeats N1 S v1 v2 = some rc ∧ F_X9_setSeats N2 M v1 v2 = some rm ∧ (rc.1 = 0 ∨ rc.1 = 1 ∨ rc.1 = 2 ∨ rc.1 = 4) ∧ rm.2 0 0 = hk_setSeats rc.1 ∧ (rc.1 = 0 → rc.2.1 = rm.1) ∧ Rl rc.2.2 rm.2
theorem hy_setSeats : hY yL_setSeats cL_setSeats 5 [(0, 10, 13, 13), (0, 10, 17, 15), (0, 10, 21, 17)] 4 := ⟨by decide +kernel, jq_6_8, jq_6_7⟩
set_option maxHeartbeats 4000000 in
set_option maxRecDepth 100000 in
theorem lc_setSeats {p : Program} {l : Launch} {e : Env} {s : State} {m : MethodId} {args : Array Value} {below : List Frame} {meth : Method} {c : Code} {Q : State → Prop} {D : va_G} {G : Nat → ClassId} {A : Nat → Prop} {ks va : Nat → Nat} {b L i : Nat} {xs : Nat → Int32} {a : Nat → Nat} {B : Nat → Nat → Nat} {o1 o2 : Nat} {Rl : (Nat → Nat → Nat → Int32) → (Nat → Nat → Int32) → Prop} {ret : Option FieldType}
    (C : Cx p s m args meth c cL_law 9 RL ret D G) (hl0 : l.stackTraces = false) (hZ : jZ ks va A s s.heap) (hC : jC s) (hA : ∀ q : Nat, s.heap.size ≤ q → A q) (hX : va_X b L xs s s.heap) (hbl : b < s.heap.size) (hbA : ¬ A b) (h0 : vp_in (nI i) L) (h1 : vp_in (nI i + 1) L) (h2 : vp_in (nI i + 2) L) (h3 : vp_in (nI i + 3) L) (h4 : vp_in (nI i + 4) L) (hE : jE_setSeats Rl) : ∀ (S : Nat → Nat → Nat → Int32) (M : Nat → Nat → Int32) (f1 : Nat → Int64) (f2 : Nat → UInt64) (ls : Array Slot) (H : Heap) (locs : List Loc) (cells slots : Nat), cells + 3 ≤ 603072 → slots + 18 ≤ 7174250 → Rl S M → va_P D vwCl (lwW a B G o1 o2 S M f1 f2) H → va_D A (lwW a B G o1 o2 S M f1 f2) → va_S A s.heap H locs → lv_has ls 9 [(5, .int (nI i)), (4, .ref o2), (3, .ref o1), (2, .ref (a 0)), (1, .ref (B 9 0)), (0, .ref b)] → (∀ (S : Nat → Nat → Nat → Int32) (M : Nat → Nat → Int32) (f1 : Nat → Int64) (f2 : Nat → UInt64) (ls : Array Slot) (H : Heap) (locs : List Loc), Rl S M → va_P D vwCl (lwW a B G o1 o2 S M f1 f2) H → va_D A (lwW a B G o1 o2 S M f1 f2) → va_S A s.heap H locs → lv_has ls 9 [(5, .int (nI i)), (4, .ref o2), (3, .ref o1), (2, .ref (a 0)), (1, .ref (B 9 0)), (0, .ref b)] → W p l e room_1 s m args below meth c H locs (cells + 3) (slots + 18) Q (F0 m 2403 ls [])) → W p l e room_1 s m args below meth c H locs cells slots Q (F0 m 200 ls []) := by
  intro S M f1 f2 ls H locs cells slots hcc hcs hR hP hD hS hl kk
  have hD0 := hD
  obtain ⟨hx, hb, hr, hml, hts, hown, hlocks, hK0⟩ := id C
  have hK := hK0.1
  refine lv_aload_n hx hb dL_law_200 rfl (lv_at hl 4 rfl) ?_
  refine lv_aload_n hx hb dL_law_201 rfl (lv_at hl 5 rfl) ?_
  refine lv_iload hx hb dL_law_202 (lv_at hl 0 rfl) ?_
  refine lv_iconst (v := 1) hx hb dL_law_204 (by decide) ?_
  refine lv_iadd hx hb dL_law_205 ?_
  refine va_sld hx hb hX hbl hbA hS h1 dL_law_206 ?_
  refine lv_aload_n hx hb dL_law_207 rfl (lv_at hl 5 rfl) ?_
  refine lv_iload hx hb dL_law_208 (lv_at hl 0 rfl) ?_
  refine lv_iconst (v := 2) hx hb dL_law_210 (by decide) ?_
  refine lv_iadd hx hb dL_law_211 ?_
  refine va_sld hx hb hX hbl hbA hS h2 dL_law_212 ?_
  refine lv_aload_n hx hb dL_law_213 rfl (lv_at hl 2 rfl) ?_
  obtain ⟨N1, rc, N2, rm, e1, e2, hk, ht, hv, hR2⟩ := hE S M (xs (nI i + 1).toNatClampNeg) (xs (nI i + 2).toNatClampNeg) hR
  rw [lwW_1] at hP hD
  refine jSh C dL_law_214 (kh_setSeats l hl0 D G B ks va o1 f1 N1 S (xs (nI i + 1).toNatClampNeg) (xs (nI i + 2).toNatClampNeg) rc e1 hk) hy_setSeats jq_6_5 jq_6_6 ⟨Nat.le_of_ble_eq_true rfl, Nat.le_of_ble_eq_true rfl⟩ ⟨by show cells + 3 ≤ 603072; omega, by show slots + 18 ≤ 7174250; omega⟩ hZ hC (jMidP (pre := wM a G M) (mid := wTS B G S ++ [((o1, .inl (G 3, 1, .inr (.inl f1))) : Nat × va_E)]) (post := [((o2, .inl (G 4, 1, .inr (.inr (.inr (.inl f2))))) : Nat × va_E)]) hP) (jMidD (pre := wM a G M) (mid := wTS B G S ++ [((o1, .inl (G 3, 1, .inr (.inl f1))) : Nat × va_E)]) (post := [((o2, .inl (G 4, 1, .inr (.inr (.inr (.inl f2))))) : Nat × va_E)]) hD) hA hS hl (As := [.ref (B 9 0), .int (xs (nI i + 1).toNatClampNeg), .int (xs (nI i + 2).toNatClampNeg), .ref o1]) (rest := []) rfl (Nat.le_of_ble_eq_true rfl) (fun H1 locs hQ hz hkp hS => ?_)
  have hP := jMidJoin (pre := wM a G M) (mid := wTS B G S ++ [((o1, .inl (G 3, 1, .inr (.inl f1))) : Nat × va_E)]) (mid' := wTS B G rc.2.2 ++ [((o1, .inl (G 3, 1, .inr (.inl (hO rc.1 f1 rc.2.1)))) : Nat × va_E)]) (post := [((o2, .inl (G 4, 1, .inr (.inr (.inr (.inl f2))))) : Nat × va_E)]) hP hD hkp hQ
  have hP : va_P D vwCl (lwW a B G o1 o2 rc.2.2 M (hO rc.1 f1 rc.2.1) f2) H1 := by rw [lwW_1]; exact hP
  have hD : va_D A (lwW a B G o1 o2 rc.2.2 M (hO rc.1 f1 rc.2.1) f2) := lwD hD0
  clear hQ hz hkp
  generalize H1 = H at hP hS ⊢
  refine W.widen (k := cells + 3) (n := slots + 18) (show cells + 3 ≤ cells + 3 by omega) (show slots + 18 ≤ slots + 18 by omega) ?_
  refine lv_istore (lv' := [(6, .int (hk_setSeats rc.1)), (5, .int (nI i)), (4, .ref o2), (3, .ref o1), (2, .ref (a 0)), (1, .ref (B 9 0)), (0, .ref b)]) hx hb dL_law_217 hl (by decide) rfl (fun ls hl => ?_)
  refine lv_aload_n hx hb dL_law_219 rfl (lv_at hl 4 rfl) ?_
  refine lv_aload_n hx hb dL_law_220 rfl (lv_at hl 6 rfl) ?_
  refine lv_iload hx hb dL_law_221 (lv_at hl 1 rfl) ?_
  refine lv_iconst (v := 1) hx hb dL_law_223 (by decide) ?_
  refine lv_iadd hx hb dL_law_224 ?_
  refine va_sld hx hb hX hbl hbA hS h1 dL_law_225 ?_
  refine lv_aload_n hx hb dL_law_226 rfl (lv_at hl 6 rfl) ?_
  refine lv_iload hx hb dL_law_227 (lv_at hl 1 rfl) ?_
  refine lv_iconst (v := 2) hx hb dL_law_229 (by decide) ?_
  refine lv_iadd hx hb dL_law_230 ?_
  refine va_sld hx hb hX hbl hbA hS h2 dL_law_231 ?_
  refine jVmI C dL_law_232 (k_X9_setSeats l D G a N2 M (xs (nI i + 1).toNatClampNeg) (xs (nI i + 2).toNatClampNeg) rm e2) jy_X9_setSeats jq_12_5 jq_12_6 jq_12_7 ⟨rfl, rfl, Nat.le_of_ble_eq_true rfl, Nat.le_of_ble_eq_true rfl⟩ ⟨by show cells + 3 ≤ 603072; omega, by show slots + 18 ≤ 7174250; omega⟩ (jMidP (pre := []) (mid := wM a G M) (post := wTS B G rc.2.2 ++ ([((o1, .inl (G 3, 1, .inr (.inl (hO rc.1 f1 rc.2.1)))) : Nat × va_E)] ++ [((o2, .inl (G 4, 1, .inr (.inr (.inr (.inl f2))))) : Nat × va_E)])) hP) (jMidD (pre := []) (mid := wM a G M) (post := wTS B G rc.2.2 ++ ([((o1, .inl (G 3, 1, .inr (.inl (hO rc.1 f1 rc.2.1)))) : Nat × va_E)] ++ [((o2, .inl (G 4, 1, .inr (.inr (.inr (.inl f2))))) : Nat × va_E)])) hD) hA hS (ci := 11) (iw := 0) rfl rfl rfl hl (As := [.int (xs (nI i + 1).toNatClampNeg), .int (xs (nI i + 2).toNatClampNeg)]) (rest := []) rfl (Nat.le_of_ble_eq_true rfl) (fun H1 locs hQ hz hkp hS => ?_)
  have hP : va_P D vwCl (lwW a B G o1 o2 rc.2.2 rm.2 (hO rc.1 f1 rc.2.1) f2) H1 := jMidJoin (pre := []) (mid := wM a G M) (mid' := wM a G rm.2) (post := wTS B G rc.2.2 ++ ([((o1, .inl (G 3, 1, .inr (.inl (hO rc.1 f1 rc.2.1)))) : Nat × va_E)] ++ [((o2, .inl (G 4, 1, .inr (.inr (.inr (.inl f2))))) : Nat × va_E)])) hP hD hkp hQ
  have hD : va_D A (lwW a B G o1 o2 rc.2.2 rm.2 (hO rc.1 f1 rc.2.1) f2) := lwD hD0
  clear hQ hz hkp
  generalize H1 = H at hP hS ⊢
  refine lv_istore (lv' := [(7, .int rm.1), (6, .int (hk_setSeats rc.1)), (5, .int (nI i)), (4, .ref o2), (3, .ref o1), (2, .ref (a 0)), (1, .ref (B 9 0)), (0, .ref b)]) hx hb dL_law_235 hl (by decide) rfl (fun ls hl => ?_)
  refine lv_aload_n hx hb dL_law_237 rfl (lv_at hl 5 rfl) ?_
  refine jVpI C dL_law_238 (k_X9_thrown l D G a N2 rm.2 (rm.2 0 0) rfl) jy_X9_thrown jq_15_8 jq_15_9 jq_15_10 ⟨rfl, rfl, Nat.le_of_ble_eq_true rfl, Nat.le_of_ble_eq_true rfl⟩ ⟨by show cells + 3 ≤ 603072; omega, by show slots + 18 ≤ 7174250; omega⟩ (jMidP (pre := []) (mid := wM a G rm.2) (post := wTS B G rc.2.2 ++ ([((o1, .inl (G 3, 1, .inr (.inl (hO rc.1 f1 rc.2.1)))) : Nat × va_E)] ++ [((o2, .inl (G 4, 1, .inr (.inr (.inr (.inl f2))))) : Nat × va_E)])) hP) (ci := 11) (iw := 0) rfl rfl rfl hl (As := []) (rest := []) rfl (Nat.le_of_ble_eq_true rfl) ?_
  refine lv_iload hx hb dL_law_241 (lv_at hl 1 rfl) ?_
  refine lv_icmp_eq (tgt := 248) hx hb dL_law_243 (by decide) (fun _ => ?_) (fun h => absurd ht h)
  refine lv_iload hx hb dL_law_248 (lv_at hl 1 rfl) ?_
  refine lv_if_ne (tgt := 265) hx hb dL_law_250 (by decide) (fun _ => ?_) (fun hz0 => ?_)
  · refine lv_goto (tgt := 2403) hx hb dL_law_265 (by decide) ?_
    exact kk rc.2.2 rm.2 (hO rc.1 f1 rc.2.1) f2 ls H locs hR2 hP hD hS (lv_sub hl [2, 3, 4, 5, 6, 7] rfl)
  · have hk0 : rc.1 = 0 := by
      rcases hk with hk | hk | hk | hk
      · exact hk
      · rw [hk] at hz0; exact absurd hz0 (by decide)
      · rw [hk] at hz0; exact absurd hz0 (by decide)
      · rw [hk] at hz0; exact absurd hz0 (by decide)
    refine lv_aload_n hx hb dL_law_253 rfl (lv_at hl 4 rfl) ?_
    refine lv_iconst (v := 0) hx hb dL_law_254 (by decide) ?_
    rw [lwW_1] at hP
    refine va_lald (n := 1) hx hb hK hP ((wM a G rm.2).length + (wTS B G rc.2.2).length) 3 (jAt1 _ _ _ _) rfl (inb_of (by decide)) dL_law_255 ?_
    rw [← lwW_1] at hP
    refine lv_iload hx hb dL_law_256 (lv_at hl 0 rfl) ?_
    refine lv_i2l hx hb dL_law_258 rfl ?_
    refine W.lcmp hx hb dL_law_259 ?_
    have hzz : lg_cmp ((hO rc.1 f1 rc.2.1) (0 : Int32).toNatClampNeg) rm.1.toInt64 = 0 := lgc (by unfold hO; rw [if_pos hk0, hv hk0]; rfl)
    refine lv_if_eq (tgt := 265) hx hb dL_law_260 (by decide) (fun _ => ?_) (fun h => absurd hzz h)
    refine lv_goto (tgt := 2403) hx hb dL_law_265 (by decide) ?_
    exact kk rc.2.2 rm.2 (hO rc.1 f1 rc.2.1) f2 ls H locs hR2 hP hD hS (lv_sub hl [2, 3, 4, 5, 6, 7] rfl)
def jE_setStaff (Rl : (Nat → Nat → Nat → Int32) → (Nat → Nat → Int32) → Prop) : Prop := ∀ (S : Nat → Nat → Nat → Int32) (M : Nat → Nat → Int32) (v1 : Int32), Rl S M → ∃ (N1 : Nat) (rc : _) (N2 : Nat) (rm : _), F_X8_setStaff N1 S v1 = some rc ∧ F_X9_setStaff N2 M v1 = some rm ∧ (rc.1 = 0 ∨ rc.1 = 2 ∨ rc.1 = 4) ∧ rm.2 0 0 = hk_setStaff rc.1 ∧ (rc.1 = 0 → rc.2.1 = rm.1) ∧ Rl rc.2.2 rm.2
theorem hy_setStaff : hY yL_setStaff cL_setStaff 4 [(0, 9, 12, 15), (0, 9, 15, 17)] 3 := ⟨by decide +kernel, jq_15_14, jq_6_7⟩
set_option maxHeartbeats 4000000 in
set_option maxRecDepth 100000 in
theorem lc_setStaff {p : Program} {l : Launch} {e : Env} {s : State} {m : MethodId} {args : Array Value} {below : List Frame} {meth : Method} {c : Code} {Q : State → Prop} {D : va_G} {G : Nat → ClassId} {A : Nat → Prop} {ks va : Nat → Nat} {b L i : Nat} {xs : Nat → Int32} {a : Nat → Nat} {B : Nat → Nat → Nat} {o1 o2 : Nat} {Rl : (Nat → Nat → Nat → Int32) → (Nat → Nat → Int32) → Prop} {ret : Option FieldType}
    (C : Cx p s m args meth c cL_law 9 RL ret D G) (hl0 : l.stackTraces = false) (hZ : jZ ks va A s s.heap) (hC : jC s) (hA : ∀ q : Nat, s.heap.size ≤ q → A q) (hX : va_X b L xs s s.heap) (hbl : b < s.heap.size) (hbA : ¬ A b) (h0 : vp_in (nI i) L) (h1 : vp_in (nI i + 1) L) (h2 : vp_in (nI i + 2) L) (h3 : vp_in (nI i + 3) L) (h4 : vp_in (nI i + 4) L) (hE : jE_setStaff Rl) : ∀ (S : Nat → Nat → Nat → Int32) (M : Nat → Nat → Int32) (f1 : Nat → Int64) (f2 : Nat → UInt64) (ls : Array Slot) (H : Heap) (locs : List Loc) (cells slots : Nat), cells + 3 ≤ 603072 → slots + 18 ≤ 7174250 → Rl S M → va_P D vwCl (lwW a B G o1 o2 S M f1 f2) H → va_D A (lwW a B G o1 o2 S M f1 f2) → va_S A s.heap H locs → lv_has ls 9 [(5, .int (nI i)), (4, .ref o2), (3, .ref o1), (2, .ref (a 0)), (1, .ref (B 9 0)), (0, .ref b)] → (∀ (S : Nat → Nat → Nat → Int32) (M : Nat → Nat → Int32) (f1 : Nat → Int64) (f2 : Nat → UInt64) (ls : Array Slot) (H : Heap) (locs : List Loc), Rl S M → va_P D vwCl (lwW a B G o1 o2 S M f1 f2) H → va_D A (lwW a B G o1 o2 S M f1 f2) → va_S A s.heap H locs → lv_has ls 9 [(5, .int (nI i)), (4, .ref o2), (3, .ref o1), (2, .ref (a 0)), (1, .ref (B 9 0)), (0, .ref b)] → W p l e room_1 s m args below meth c H locs (cells + 3) (slots + 18) Q (F0 m 2403 ls [])) → W p l e room_1 s m args below meth c H locs cells slots Q (F0 m 268 ls []) := by
  intro S M f1 f2 ls H locs cells slots hcc hcs hR hP hD hS hl kk
  have hD0 := hD
  obtain ⟨hx, hb, hr, hml, hts, hown, hlocks, hK0⟩ := id C
  have hK := hK0.1
  refine lv_aload_n hx hb dL_law_268 rfl (lv_at hl 4 rfl) ?_
  refine lv_aload_n hx hb dL_law_269 rfl (lv_at hl 5 rfl) ?_
  refine lv_iload hx hb dL_law_270 (lv_at hl 0 rfl) ?_
  refine lv_iconst (v := 1) hx hb dL_law_272 (by decide) ?_
  refine lv_iadd hx hb dL_law_273 ?_
  refine va_sld hx hb hX hbl hbA hS h1 dL_law_274 ?_
  refine lv_aload_n hx hb dL_law_275 rfl (lv_at hl 2 rfl) ?_
  obtain ⟨N1, rc, N2, rm, e1, e2, hk, ht, hv, hR2⟩ := hE S M (xs (nI i + 1).toNatClampNeg) hR
  rw [lwW_1] at hP hD
  refine jSh C dL_law_276 (kh_setStaff l hl0 D G B ks va o1 f1 N1 S (xs (nI i + 1).toNatClampNeg) rc e1 hk) hy_setStaff jq_15_12 jq_15_13 ⟨Nat.le_of_ble_eq_true rfl, Nat.le_of_ble_eq_true rfl⟩ ⟨by show cells + 3 ≤ 603072; omega, by show slots + 18 ≤ 7174250; omega⟩ hZ hC (jMidP (pre := wM a G M) (mid := wTS B G S ++ [((o1, .inl (G 3, 1, .inr (.inl f1))) : Nat × va_E)]) (post := [((o2, .inl (G 4, 1, .inr (.inr (.inr (.inl f2))))) : Nat × va_E)]) hP) (jMidD (pre := wM a G M) (mid := wTS B G S ++ [((o1, .inl (G 3, 1, .inr (.inl f1))) : Nat × va_E)]) (post := [((o2, .inl (G 4, 1, .inr (.inr (.inr (.inl f2))))) : Nat × va_E)]) hD) hA hS hl (As := [.ref (B 9 0), .int (xs (nI i + 1).toNatClampNeg), .ref o1]) (rest := []) rfl (Nat.le_of_ble_eq_true rfl) (fun H1 locs hQ hz hkp hS => ?_)
  have hP := jMidJoin (pre := wM a G M) (mid := wTS B G S ++ [((o1, .inl (G 3, 1, .inr (.inl f1))) : Nat × va_E)]) (mid' := wTS B G rc.2.2 ++ [((o1, .inl (G 3, 1, .inr (.inl (hO rc.1 f1 rc.2.1)))) : Nat × va_E)]) (post := [((o2, .inl (G 4, 1, .inr (.inr (.inr (.inl f2))))) : Nat × va_E)]) hP hD hkp hQ
  have hP : va_P D vwCl (lwW a B G o1 o2 rc.2.2 M (hO rc.1 f1 rc.2.1) f2) H1 := by rw [lwW_1]; exact hP
  have hD : va_D A (lwW a B G o1 o2 rc.2.2 M (hO rc.1 f1 rc.2.1) f2) := lwD hD0
  clear hQ hz hkp
  generalize H1 = H at hP hS ⊢
  refine W.widen (k := cells + 3) (n := slots + 18) (show cells + 3 ≤ cells + 3 by omega) (show slots + 18 ≤ slots + 18 by omega) ?_
  refine lv_istore (lv' := [(6, .int (hk_setStaff rc.1)), (5, .int (nI i)), (4, .ref o2), (3, .ref o1), (2, .ref (a 0)), (1, .ref (B 9 0)), (0, .ref b)]) hx hb dL_law_279 hl (by decide) rfl (fun ls hl => ?_)
  refine lv_aload_n hx hb dL_law_281 rfl (lv_at hl 4 rfl) ?_
  refine lv_aload_n hx hb dL_law_282 rfl (lv_at hl 6 rfl) ?_
  refine lv_iload hx hb dL_law_283 (lv_at hl 1 rfl) ?_
  refine lv_iconst (v := 1) hx hb dL_law_285 (by decide) ?_
  refine lv_iadd hx hb dL_law_286 ?_
  refine va_sld hx hb hX hbl hbA hS h1 dL_law_287 ?_
  refine jVmI C dL_law_288 (k_X9_setStaff l D G a N2 M (xs (nI i + 1).toNatClampNeg) rm e2) jy_X9_setStaff jq_16_10 jq_16_11 jq_16_12 ⟨rfl, rfl, Nat.le_of_ble_eq_true rfl, Nat.le_of_ble_eq_true rfl⟩ ⟨by show cells + 3 ≤ 603072; omega, by show slots + 18 ≤ 7174250; omega⟩ (jMidP (pre := []) (mid := wM a G M) (post := wTS B G rc.2.2 ++ ([((o1, .inl (G 3, 1, .inr (.inl (hO rc.1 f1 rc.2.1)))) : Nat × va_E)] ++ [((o2, .inl (G 4, 1, .inr (.inr (.inr (.inl f2))))) : Nat × va_E)])) hP) (jMidD (pre := []) (mid := wM a G M) (post := wTS B G rc.2.2 ++ ([((o1, .inl (G 3, 1, .inr (.inl (hO rc.1 f1 rc.2.1)))) : Nat × va_E)] ++ [((o2, .inl (G 4, 1, .inr (.inr (.inr (.inl f2))))) : Nat × va_E)])) hD) hA hS (ci := 11) (iw := 0) rfl rfl rfl hl (As := [.int (xs (nI i + 1).toNatClampNeg)]) (rest := []) rfl (Nat.le_of_ble_eq_true rfl) (fun H1 locs hQ hz hkp hS => ?_)
  have hP : va_P D vwCl (lwW a B G o1 o2 rc.2.2 rm.2 (hO rc.1 f1 rc.2.1) f2) H1 := jMidJoin (pre := []) (mid := wM a G M) (mid' := wM a G rm.2) (post := wTS B G rc.2.2 ++ ([((o1, .inl (G 3, 1, .inr (.inl (hO rc.1 f1 rc.2.1)))) : Nat × va_E)] ++ [((o2, .inl (G 4, 1, .inr (.inr (.inr (.inl f2))))) : Nat × va_E)])) hP hD hkp hQ
  have hD : va_D A (lwW a B G o1 o2 rc.2.2 rm.2 (hO rc.1 f1 rc.2.1) f2) := lwD hD0
  clear hQ hz hkp
  generalize H1 = H at hP hS ⊢
  refine lv_istore (lv' := [(7, .int rm.1), (6, .int (hk_setStaff rc.1)), (5, .int (nI i)), (4, .ref o2), (3, .ref o1), (2, .ref (a 0)), (1, .ref (B 9 0)), (0, .ref b)]) hx hb dL_law_291 hl (by decide) rfl (fun ls hl => ?_)
  refine lv_aload_n hx hb dL_law_293 rfl (lv_at hl 5 rfl) ?_
  refine jVpI C dL_law_294 (k_X9_thrown l D G a N2 rm.2 (rm.2 0 0) rfl) jy_X9_thrown jq_15_8 jq_15_9 jq_15_10 ⟨rfl, rfl, Nat.le_of_ble_eq_true rfl, Nat.le_of_ble_eq_true rfl⟩ ⟨by show cells + 3 ≤ 603072; omega, by show slots + 18 ≤ 7174250; omega⟩ (jMidP (pre := []) (mid := wM a G rm.2) (post := wTS B G rc.2.2 ++ ([((o1, .inl (G 3, 1, .inr (.inl (hO rc.1 f1 rc.2.1)))) : Nat × va_E)] ++ [((o2, .inl (G 4, 1, .inr (.inr (.inr (.inl f2))))) : Nat × va_E)])) hP) (ci := 11) (iw := 0) rfl rfl rfl hl (As := []) (rest := []) rfl (Nat.le_of_ble_eq_true rfl) ?_
  refine lv_iload hx hb dL_law_297 (lv_at hl 1 rfl) ?_
  refine lv_icmp_eq (tgt := 304) hx hb dL_law_299 (by decide) (fun _ => ?_) (fun h => absurd ht h)
  refine lv_iload hx hb dL_law_304 (lv_at hl 1 rfl) ?_
  refine lv_if_ne (tgt := 321) hx hb dL_law_306 (by decide) (fun _ => ?_) (fun hz0 => ?_)
  · refine lv_goto (tgt := 2403) hx hb dL_law_321 (by decide) ?_
    exact kk rc.2.2 rm.2 (hO rc.1 f1 rc.2.1) f2 ls H locs hR2 hP hD hS (lv_sub hl [2, 3, 4, 5, 6, 7] rfl)
  · have hk0 : rc.1 = 0 := by
      rcases hk with hk | hk | hk
      · exact hk
      · rw [hk] at hz0; exact absurd hz0 (by decide)
      · rw [hk] at hz0; exact absurd hz0 (by decide)
    refine lv_aload_n hx hb dL_law_309 rfl (lv_at hl 4 rfl) ?_
    refine lv_iconst (v := 0) hx hb dL_law_310 (by decide) ?_
    rw [lwW_1] at hP
    refine va_lald (n := 1) hx hb hK hP ((wM a G rm.2).length + (wTS B G rc.2.2).length) 3 (jAt1 _ _ _ _) rfl (inb_of (by decide)) dL_law_311 ?_
    rw [← lwW_1] at hP
    refine lv_iload hx hb dL_law_312 (lv_at hl 0 rfl) ?_
    refine lv_i2l hx hb dL_law_314 rfl ?_
    refine W.lcmp hx hb dL_law_315 ?_
    have hzz : lg_cmp ((hO rc.1 f1 rc.2.1) (0 : Int32).toNatClampNeg) rm.1.toInt64 = 0 := lgc (by unfold hO; rw [if_pos hk0, hv hk0]; rfl)
    refine lv_if_eq (tgt := 321) hx hb dL_law_316 (by decide) (fun _ => ?_) (fun h => absurd hzz h)
    refine lv_goto (tgt := 2403) hx hb dL_law_321 (by decide) ?_
    exact kk rc.2.2 rm.2 (hO rc.1 f1 rc.2.1) f2 ls H locs hR2 hP hD hS (lv_sub hl [2, 3, 4, 5, 6, 7] rfl)
def jE_setRoom (Rl : (Nat → Nat → Nat → Int32) → (Nat → Nat → Int32) → Prop) : Prop := ∀ (S : Nat → Nat → Nat → Int32) (M : Nat → Nat → Int32) (v1 : Int32), Rl S M → ∃ (N1 : Nat) (rc : _) (N2 : Nat) (rm : _), F_X8_setRoom N1 S v1 = some rc ∧ F_X9_setRoom N2 M v1 = some rm ∧ (rc.1 = 0 ∨ rc.1 = 2 ∨ rc.1 = 4) ∧ rm.2 0 0 = hk_setRoom rc.1 ∧ (rc.1 = 0 → rc.2.1 = rm.1) ∧ Rl rc.2.2 rm.2
theorem hy_setRoom : hY yL_setRoom cL_setRoom 4 [(0, 9, 12, 15), (0, 9, 15, 17)] 3 := ⟨by decide +kernel, jq_18_14, jq_6_7⟩
set_option maxHeartbeats 4000000 in
set_option maxRecDepth 100000 in
theorem lc_setRoom {p : Program} {l : Launch} {e : Env} {s : State} {m : MethodId} {args : Array Value} {below : List Frame} {meth : Method} {c : Code} {Q : State → Prop} {D : va_G} {G : Nat → ClassId} {A : Nat → Prop} {ks va : Nat → Nat} {b L i : Nat} {xs : Nat → Int32} {a : Nat → Nat} {B : Nat → Nat → Nat} {o1 o2 : Nat} {Rl : (Nat → Nat → Nat → Int32) → (Nat → Nat → Int32) → Prop} {ret : Option FieldType}
    (C : Cx p s m args meth c cL_law 9 RL ret D G) (hl0 : l.stackTraces = false) (hZ : jZ ks va A s s.heap) (hC : jC s) (hA : ∀ q : Nat, s.heap.size ≤ q → A q) (hX : va_X b L xs s s.heap) (hbl : b < s.heap.size) (hbA : ¬ A b) (h0 : vp_in (nI i) L) (h1 : vp_in (nI i + 1) L) (h2 : vp_in (nI i + 2) L) (h3 : vp_in (nI i + 3) L) (h4 : vp_in (nI i + 4) L) (hE : jE_setRoom Rl) : ∀ (S : Nat → Nat → Nat → Int32) (M : Nat → Nat → Int32) (f1 : Nat → Int64) (f2 : Nat → UInt64) (ls : Array Slot) (H : Heap) (locs : List Loc) (cells slots : Nat), cells + 3 ≤ 603072 → slots + 18 ≤ 7174250 → Rl S M → va_P D vwCl (lwW a B G o1 o2 S M f1 f2) H → va_D A (lwW a B G o1 o2 S M f1 f2) → va_S A s.heap H locs → lv_has ls 9 [(5, .int (nI i)), (4, .ref o2), (3, .ref o1), (2, .ref (a 0)), (1, .ref (B 9 0)), (0, .ref b)] → (∀ (S : Nat → Nat → Nat → Int32) (M : Nat → Nat → Int32) (f1 : Nat → Int64) (f2 : Nat → UInt64) (ls : Array Slot) (H : Heap) (locs : List Loc), Rl S M → va_P D vwCl (lwW a B G o1 o2 S M f1 f2) H → va_D A (lwW a B G o1 o2 S M f1 f2) → va_S A s.heap H locs → lv_has ls 9 [(5, .int (nI i)), (4, .ref o2), (3, .ref o1), (2, .ref (a 0)), (1, .ref (B 9 0)), (0, .ref b)] → W p l e room_1 s m args below meth c H locs (cells + 3) (slots + 18) Q (F0 m 2403 ls [])) → W p l e room_1 s m args below meth c H locs cells slots Q (F0 m 324 ls []) := by
  intro S M f1 f2 ls H locs cells slots hcc hcs hR hP hD hS hl kk
  have hD0 := hD
  obtain ⟨hx, hb, hr, hml, hts, hown, hlocks, hK0⟩ := id C
  have hK := hK0.1
  refine lv_aload_n hx hb dL_law_324 rfl (lv_at hl 4 rfl) ?_
  refine lv_aload_n hx hb dL_law_325 rfl (lv_at hl 5 rfl) ?_
  refine lv_iload hx hb dL_law_326 (lv_at hl 0 rfl) ?_
  refine lv_iconst (v := 1) hx hb dL_law_328 (by decide) ?_
  refine lv_iadd hx hb dL_law_329 ?_
  refine va_sld hx hb hX hbl hbA hS h1 dL_law_330 ?_
  refine lv_aload_n hx hb dL_law_331 rfl (lv_at hl 2 rfl) ?_
  obtain ⟨N1, rc, N2, rm, e1, e2, hk, ht, hv, hR2⟩ := hE S M (xs (nI i + 1).toNatClampNeg) hR
  rw [lwW_1] at hP hD
  refine jSh C dL_law_332 (kh_setRoom l hl0 D G B ks va o1 f1 N1 S (xs (nI i + 1).toNatClampNeg) rc e1 hk) hy_setRoom jq_18_12 jq_18_13 ⟨Nat.le_of_ble_eq_true rfl, Nat.le_of_ble_eq_true rfl⟩ ⟨by show cells + 3 ≤ 603072; omega, by show slots + 18 ≤ 7174250; omega⟩ hZ hC (jMidP (pre := wM a G M) (mid := wTS B G S ++ [((o1, .inl (G 3, 1, .inr (.inl f1))) : Nat × va_E)]) (post := [((o2, .inl (G 4, 1, .inr (.inr (.inr (.inl f2))))) : Nat × va_E)]) hP) (jMidD (pre := wM a G M) (mid := wTS B G S ++ [((o1, .inl (G 3, 1, .inr (.inl f1))) : Nat × va_E)]) (post := [((o2, .inl (G 4, 1, .inr (.inr (.inr (.inl f2))))) : Nat × va_E)]) hD) hA hS hl (As := [.ref (B 9 0), .int (xs (nI i + 1).toNatClampNeg), .ref o1]) (rest := []) rfl (Nat.le_of_ble_eq_true rfl) (fun H1 locs hQ hz hkp hS => ?_)
  have hP := jMidJoin (pre := wM a G M) (mid := wTS B G S ++ [((o1, .inl (G 3, 1, .inr (.inl f1))) : Nat × va_E)]) (mid' := wTS B G rc.2.2 ++ [((o1, .inl (G 3, 1, .inr (.inl (hO rc.1 f1 rc.2.1)))) : Nat × va_E)]) (post := [((o2, .inl (G 4, 1, .inr (.inr (.inr (.inl f2))))) : Nat × va_E)]) hP hD hkp hQ
  have hP : va_P D vwCl (lwW a B G o1 o2 rc.2.2 M (hO rc.1 f1 rc.2.1) f2) H1 := by rw [lwW_1]; exact hP
  have hD : va_D A (lwW a B G o1 o2 rc.2.2 M (hO rc.1 f1 rc.2.1) f2) := lwD hD0
  clear hQ hz hkp
  generalize H1 = H at hP hS ⊢
  refine W.widen (k := cells + 3) (n := slots + 18) (show cells + 3 ≤ cells + 3 by omega) (show slots + 18 ≤ slots + 18 by omega) ?_
  refine lv_istore (lv' := [(6, .int (hk_setRoom rc.1)), (5, .int (nI i)), (4, .ref o2), (3, .ref o1), (2, .ref (a 0)), (1, .ref (B 9 0)), (0, .ref b)]) hx hb dL_law_335 hl (by decide) rfl (fun ls hl => ?_)
  refine lv_aload_n hx hb dL_law_337 rfl (lv_at hl 4 rfl) ?_
  refine lv_aload_n hx hb dL_law_338 rfl (lv_at hl 6 rfl) ?_
  refine lv_iload hx hb dL_law_339 (lv_at hl 1 rfl) ?_
  refine lv_iconst (v := 1) hx hb dL_law_341 (by decide) ?_
  refine lv_iadd hx hb dL_law_342 ?_
  refine va_sld hx hb hX hbl hbA hS h1 dL_law_343 ?_
  refine jVmI C dL_law_344 (k_X9_setRoom l D G a N2 M (xs (nI i + 1).toNatClampNeg) rm e2) jy_X9_setRoom jq_19_10 jq_19_11 jq_19_12 ⟨rfl, rfl, Nat.le_of_ble_eq_true rfl, Nat.le_of_ble_eq_true rfl⟩ ⟨by show cells + 3 ≤ 603072; omega, by show slots + 18 ≤ 7174250; omega⟩ (jMidP (pre := []) (mid := wM a G M) (post := wTS B G rc.2.2 ++ ([((o1, .inl (G 3, 1, .inr (.inl (hO rc.1 f1 rc.2.1)))) : Nat × va_E)] ++ [((o2, .inl (G 4, 1, .inr (.inr (.inr (.inl f2))))) : Nat × va_E)])) hP) (jMidD (pre := []) (mid := wM a G M) (post := wTS B G rc.2.2 ++ ([((o1, .inl (G 3, 1, .inr (.inl (hO rc.1 f1 rc.2.1)))) : Nat × va_E)] ++ [((o2, .inl (G 4, 1, .inr (.inr (.inr (.inl f2))))) : Nat × va_E)])) hD) hA hS (ci := 11) (iw := 0) rfl rfl rfl hl (As := [.int (xs (nI i + 1).toNatClampNeg)]) (rest := []) rfl (Nat.le_of_ble_eq_true rfl) (fun H1 locs hQ hz hkp hS => ?_)
  have hP : va_P D vwCl (lwW a B G o1 o2 rc.2.2 rm.2 (hO rc.1 f1 rc.2.1) f2) H1 := jMidJoin (pre := []) (mid := wM a G M) (mid' := wM a G rm.2) (post := wTS B G rc.2.2 ++ ([((o1, .inl (G 3, 1, .inr (.inl (hO rc.1 f1 rc.2.1)))) : Nat × va_E)] ++ [((o2, .inl (G 4, 1, .inr (.inr (.inr (.inl f2))))) : Nat × va_E)])) hP hD hkp hQ
  have hD : va_D A (lwW a B G o1 o2 rc.2.2 rm.2 (hO rc.1 f1 rc.2.1) f2) := lwD hD0
  clear hQ hz hkp
  generalize H1 = H at hP hS ⊢
  refine lv_istore (lv' := [(7, .int rm.1), (6, .int (hk_setRoom rc.1)), (5, .int (nI i)), (4, .ref o2), (3, .ref o1), (2, .ref (a 0)), (1, .ref (B 9 0)), (0, .ref b)]) hx hb dL_law_347 hl (by decide) rfl (fun ls hl => ?_)
  refine lv_aload_n hx hb dL_law_349 rfl (lv_at hl 5 rfl) ?_
  refine jVpI C dL_law_350 (k_X9_thrown l D G a N2 rm.2 (rm.2 0 0) rfl) jy_X9_thrown jq_15_8 jq_15_9 jq_15_10 ⟨rfl, rfl, Nat.le_of_ble_eq_true rfl, Nat.le_of_ble_eq_true rfl⟩ ⟨by show cells + 3 ≤ 603072; omega, by show slots + 18 ≤ 7174250; omega⟩ (jMidP (pre := []) (mid := wM a G rm.2) (post := wTS B G rc.2.2 ++ ([((o1, .inl (G 3, 1, .inr (.inl (hO rc.1 f1 rc.2.1)))) : Nat × va_E)] ++ [((o2, .inl (G 4, 1, .inr (.inr (.inr (.inl f2))))) : Nat × va_E)])) hP) (ci := 11) (iw := 0) rfl rfl rfl hl (As := []) (rest := []) rfl (Nat.le_of_ble_eq_true rfl) ?_
  refine lv_iload hx hb dL_law_353 (lv_at hl 1 rfl) ?_
  refine lv_icmp_eq (tgt := 360) hx hb dL_law_355 (by decide) (fun _ => ?_) (fun h => absurd ht h)
  refine lv_iload hx hb dL_law_360 (lv_at hl 1 rfl) ?_
  refine lv_if_ne (tgt := 377) hx hb dL_law_362 (by decide) (fun _ => ?_) (fun hz0 => ?_)
  · refine lv_goto (tgt := 2403) hx hb dL_law_377 (by decide) ?_
    exact kk rc.2.2 rm.2 (hO rc.1 f1 rc.2.1) f2 ls H locs hR2 hP hD hS (lv_sub hl [2, 3, 4, 5, 6, 7] rfl)
  · have hk0 : rc.1 = 0 := by
      rcases hk with hk | hk | hk
      · exact hk
      · rw [hk] at hz0; exact absurd hz0 (by decide)
      · rw [hk] at hz0; exact absurd hz0 (by decide)
    refine lv_aload_n hx hb dL_law_365 rfl (lv_at hl 4 rfl) ?_
    refine lv_iconst (v := 0) hx hb dL_law_366 (by decide) ?_
    rw [lwW_1] at hP
    refine va_lald (n := 1) hx hb hK hP ((wM a G rm.2).length + (wTS B G rc.2.2).length) 3 (jAt1 _ _ _ _) rfl (inb_of (by decide)) dL_law_367 ?_
    rw [← lwW_1] at hP
    refine lv_iload hx hb dL_law_368 (lv_at hl 0 rfl) ?_
    refine lv_i2l hx hb dL_law_370 rfl ?_
    refine W.lcmp hx hb dL_law_371 ?_
    have hzz : lg_cmp ((hO rc.1 f1 rc.2.1) (0 : Int32).toNatClampNeg) rm.1.toInt64 = 0 := lgc (by unfold hO; rw [if_pos hk0, hv hk0]; rfl)
    refine lv_if_eq (tgt := 377) hx hb dL_law_372 (by decide) (fun _ => ?_) (fun h => absurd hzz h)
    refine lv_goto (tgt := 2403) hx hb dL_law_377 (by decide) ?_
    exact kk rc.2.2 rm.2 (hO rc.1 f1 rc.2.1) f2 ls H locs hR2 hP hD hS (lv_sub hl [2, 3, 4, 5, 6, 7] rfl)
def jE_addProduction (Rl : (Nat → Nat → Nat → Int32) → (Nat → Nat → Int32) → Prop) : Prop := ∀ (S : Nat → Nat → Nat → Int32) (M : Nat → Nat → Int32) (v1 v2 v3 v4 : Int32), Rl S M → ∃ (N1 : Nat) (rc : _) (N2 : Nat) (rm : _), F_X8_addProduction N1 S v1 v2 v3 v4 = some rc ∧ F_X9_addProduction N2 M v1 v2 v3 v4 = some rm ∧ (rc.1 = 0 ∨ rc.1 = 2 ∨ rc.1 = 3) ∧ rm.2 0 0 = hk_addProduction rc.1 ∧ (rc.1 = 0 → rc.2.1 = rm.1) ∧ Rl rc.2.2 rm.2
theorem hy_addProduction : hY yL_addProduction cL_addProduction 7 [(0, 14, 17, 15), (0, 14, 21, 30)] 6 := ⟨by decide +kernel, jq_19_16, jq_6_7⟩
set_option maxHeartbeats 4000000 in
set_option maxRecDepth 100000 in
theorem lc_addProduction {p : Program} {l : Launch} {e : Env} {s : State} {m : MethodId} {args : Array Value} {below : List Frame} {meth : Method} {c : Code} {Q : State → Prop} {D : va_G} {G : Nat → ClassId} {A : Nat → Prop} {ks va : Nat → Nat} {b L i : Nat} {xs : Nat → Int32} {a : Nat → Nat} {B : Nat → Nat → Nat} {o1 o2 : Nat} {Rl : (Nat → Nat → Nat → Int32) → (Nat → Nat → Int32) → Prop} {ret : Option FieldType}
    (C : Cx p s m args meth c cL_law 9 RL ret D G) (hl0 : l.stackTraces = false) (hZ : jZ ks va A s s.heap) (hC : jC s) (hA : ∀ q : Nat, s.heap.size ≤ q → A q) (hX : va_X b L xs s s.heap) (hbl : b < s.heap.size) (hbA : ¬ A b) (h0 : vp_in (nI i) L) (h1 : vp_in (nI i + 1) L) (h2 : vp_in (nI i + 2) L) (h3 : vp_in (nI i + 3) L) (h4 : vp_in (nI i + 4) L) (hE : jE_addProduction Rl) : ∀ (S : Nat → Nat → Nat → Int32) (M : Nat → Nat → Int32) (f1 : Nat → Int64) (f2 : Nat → UInt64) (ls : Array Slot) (H : Heap) (locs : List Loc) (cells slots : Nat), cells + 3 ≤ 603072 → slots + 18 ≤ 7174250 → Rl S M → va_P D vwCl (lwW a B G o1 o2 S M f1 f2) H → va_D A (lwW a B G o1 o2 S M f1 f2) → va_S A s.heap H locs → lv_has ls 9 [(5, .int (nI i)), (4, .ref o2), (3, .ref o1), (2, .ref (a 0)), (1, .ref (B 9 0)), (0, .ref b)] → (∀ (S : Nat → Nat → Nat → Int32) (M : Nat → Nat → Int32) (f1 : Nat → Int64) (f2 : Nat → UInt64) (ls : Array Slot) (H : Heap) (locs : List Loc), Rl S M → va_P D vwCl (lwW a B G o1 o2 S M f1 f2) H → va_D A (lwW a B G o1 o2 S M f1 f2) → va_S A s.heap H locs → lv_has ls 9 [(5, .int (nI i)), (4, .ref o2), (3, .ref o1), (2, .ref (a 0)), (1, .ref (B 9 0)), (0, .ref b)] → W p l e room_1 s m args below meth c H locs (cells + 3) (slots + 18) Q (F0 m 2403 ls [])) → W p l e room_1 s m args below meth c H locs cells slots Q (F0 m 380 ls []) := by
  intro S M f1 f2 ls H locs cells slots hcc hcs hR hP hD hS hl kk
  have hD0 := hD
  obtain ⟨hx, hb, hr, hml, hts, hown, hlocks, hK0⟩ := id C
  have hK := hK0.1
  refine lv_aload_n hx hb dL_law_380 rfl (lv_at hl 4 rfl) ?_
  refine lv_aload_n hx hb dL_law_381 rfl (lv_at hl 5 rfl) ?_
  refine lv_iload hx hb dL_law_382 (lv_at hl 0 rfl) ?_
  refine lv_iconst (v := 1) hx hb dL_law_384 (by decide) ?_
  refine lv_iadd hx hb dL_law_385 ?_
  refine va_sld hx hb hX hbl hbA hS h1 dL_law_386 ?_
  refine lv_aload_n hx hb dL_law_387 rfl (lv_at hl 5 rfl) ?_
  refine lv_iload hx hb dL_law_388 (lv_at hl 0 rfl) ?_
  refine lv_iconst (v := 2) hx hb dL_law_390 (by decide) ?_
  refine lv_iadd hx hb dL_law_391 ?_
  refine va_sld hx hb hX hbl hbA hS h2 dL_law_392 ?_
  refine lv_aload_n hx hb dL_law_393 rfl (lv_at hl 5 rfl) ?_
  refine lv_iload hx hb dL_law_394 (lv_at hl 0 rfl) ?_
  refine lv_iconst (v := 3) hx hb dL_law_396 (by decide) ?_
  refine lv_iadd hx hb dL_law_397 ?_
  refine va_sld hx hb hX hbl hbA hS h3 dL_law_398 ?_
  refine lv_aload_n hx hb dL_law_399 rfl (lv_at hl 5 rfl) ?_
  refine lv_iload hx hb dL_law_400 (lv_at hl 0 rfl) ?_
  refine lv_iconst (v := 4) hx hb dL_law_402 (by decide) ?_
  refine lv_iadd hx hb dL_law_403 ?_
  refine va_sld hx hb hX hbl hbA hS h4 dL_law_404 ?_
  refine lv_aload_n hx hb dL_law_405 rfl (lv_at hl 2 rfl) ?_
  obtain ⟨N1, rc, N2, rm, e1, e2, hk, ht, hv, hR2⟩ := hE S M (xs (nI i + 1).toNatClampNeg) (xs (nI i + 2).toNatClampNeg) (xs (nI i + 3).toNatClampNeg) (xs (nI i + 4).toNatClampNeg) hR
  rw [lwW_1] at hP hD
  refine jSh C dL_law_406 (kh_addProduction l hl0 D G B ks va o1 f1 N1 S (xs (nI i + 1).toNatClampNeg) (xs (nI i + 2).toNatClampNeg) (xs (nI i + 3).toNatClampNeg) (xs (nI i + 4).toNatClampNeg) rc e1 hk) hy_addProduction jq_19_14 jq_19_15 ⟨Nat.le_of_ble_eq_true rfl, Nat.le_of_ble_eq_true rfl⟩ ⟨by show cells + 3 ≤ 603072; omega, by show slots + 18 ≤ 7174250; omega⟩ hZ hC (jMidP (pre := wM a G M) (mid := wTS B G S ++ [((o1, .inl (G 3, 1, .inr (.inl f1))) : Nat × va_E)]) (post := [((o2, .inl (G 4, 1, .inr (.inr (.inr (.inl f2))))) : Nat × va_E)]) hP) (jMidD (pre := wM a G M) (mid := wTS B G S ++ [((o1, .inl (G 3, 1, .inr (.inl f1))) : Nat × va_E)]) (post := [((o2, .inl (G 4, 1, .inr (.inr (.inr (.inl f2))))) : Nat × va_E)]) hD) hA hS hl (As := [.ref (B 9 0), .int (xs (nI i + 1).toNatClampNeg), .int (xs (nI i + 2).toNatClampNeg), .int (xs (nI i + 3).toNatClampNeg), .int (xs (nI i + 4).toNatClampNeg), .ref o1]) (rest := []) rfl (Nat.le_of_ble_eq_true rfl) (fun H1 locs hQ hz hkp hS => ?_)
  have hP := jMidJoin (pre := wM a G M) (mid := wTS B G S ++ [((o1, .inl (G 3, 1, .inr (.inl f1))) : Nat × va_E)]) (mid' := wTS B G rc.2.2 ++ [((o1, .inl (G 3, 1, .inr (.inl (hO rc.1 f1 rc.2.1)))) : Nat × va_E)]) (post := [((o2, .inl (G 4, 1, .inr (.inr (.inr (.inl f2))))) : Nat × va_E)]) hP hD hkp hQ
  have hP : va_P D vwCl (lwW a B G o1 o2 rc.2.2 M (hO rc.1 f1 rc.2.1) f2) H1 := by rw [lwW_1]; exact hP
  have hD : va_D A (lwW a B G o1 o2 rc.2.2 M (hO rc.1 f1 rc.2.1) f2) := lwD hD0
  clear hQ hz hkp
  generalize H1 = H at hP hS ⊢
  refine W.widen (k := cells + 3) (n := slots + 18) (show cells + 3 ≤ cells + 3 by omega) (show slots + 18 ≤ slots + 18 by omega) ?_
  refine lv_istore (lv' := [(6, .int (hk_addProduction rc.1)), (5, .int (nI i)), (4, .ref o2), (3, .ref o1), (2, .ref (a 0)), (1, .ref (B 9 0)), (0, .ref b)]) hx hb dL_law_409 hl (by decide) rfl (fun ls hl => ?_)
  refine lv_aload_n hx hb dL_law_411 rfl (lv_at hl 4 rfl) ?_
  refine lv_aload_n hx hb dL_law_412 rfl (lv_at hl 6 rfl) ?_
  refine lv_iload hx hb dL_law_413 (lv_at hl 1 rfl) ?_
  refine lv_iconst (v := 1) hx hb dL_law_415 (by decide) ?_
  refine lv_iadd hx hb dL_law_416 ?_
  refine va_sld hx hb hX hbl hbA hS h1 dL_law_417 ?_
  refine lv_aload_n hx hb dL_law_418 rfl (lv_at hl 6 rfl) ?_
  refine lv_iload hx hb dL_law_419 (lv_at hl 1 rfl) ?_
  refine lv_iconst (v := 2) hx hb dL_law_421 (by decide) ?_
  refine lv_iadd hx hb dL_law_422 ?_
  refine va_sld hx hb hX hbl hbA hS h2 dL_law_423 ?_
  refine lv_aload_n hx hb dL_law_424 rfl (lv_at hl 6 rfl) ?_
  refine lv_iload hx hb dL_law_425 (lv_at hl 1 rfl) ?_
  refine lv_iconst (v := 3) hx hb dL_law_427 (by decide) ?_
  refine lv_iadd hx hb dL_law_428 ?_
  refine va_sld hx hb hX hbl hbA hS h3 dL_law_429 ?_
  refine lv_aload_n hx hb dL_law_430 rfl (lv_at hl 6 rfl) ?_
  refine lv_iload hx hb dL_law_431 (lv_at hl 1 rfl) ?_
  refine lv_iconst (v := 4) hx hb dL_law_433 (by decide) ?_
  refine lv_iadd hx hb dL_law_434 ?_
  refine va_sld hx hb hX hbl hbA hS h4 dL_law_435 ?_
  refine jVmI C dL_law_436 (k_X9_addProduction l D G a N2 M (xs (nI i + 1).toNatClampNeg) (xs (nI i + 2).toNatClampNeg) (xs (nI i + 3).toNatClampNeg) (xs (nI i + 4).toNatClampNeg) rm e2) jy_X9_addProduction jq_20_7 jq_20_8 jq_20_9 ⟨rfl, rfl, Nat.le_of_ble_eq_true rfl, Nat.le_of_ble_eq_true rfl⟩ ⟨by show cells + 3 ≤ 603072; omega, by show slots + 18 ≤ 7174250; omega⟩ (jMidP (pre := []) (mid := wM a G M) (post := wTS B G rc.2.2 ++ ([((o1, .inl (G 3, 1, .inr (.inl (hO rc.1 f1 rc.2.1)))) : Nat × va_E)] ++ [((o2, .inl (G 4, 1, .inr (.inr (.inr (.inl f2))))) : Nat × va_E)])) hP) (jMidD (pre := []) (mid := wM a G M) (post := wTS B G rc.2.2 ++ ([((o1, .inl (G 3, 1, .inr (.inl (hO rc.1 f1 rc.2.1)))) : Nat × va_E)] ++ [((o2, .inl (G 4, 1, .inr (.inr (.inr (.inl f2))))) : Nat × va_E)])) hD) hA hS (ci := 11) (iw := 0) rfl rfl rfl hl (As := [.int (xs (nI i + 1).toNatClampNeg), .int (xs (nI i + 2).toNatClampNeg), .int (xs (nI i + 3).toNatClampNeg), .int (xs (nI i + 4).toNatClampNeg)]) (rest := []) rfl (Nat.le_of_ble_eq_true rfl) (fun H1 locs hQ hz hkp hS => ?_)
  have hP : va_P D vwCl (lwW a B G o1 o2 rc.2.2 rm.2 (hO rc.1 f1 rc.2.1) f2) H1 := jMidJoin (pre := []) (mid := wM a G M) (mid' := wM a G rm.2) (post := wTS B G rc.2.2 ++ ([((o1, .inl (G 3, 1, .inr (.inl (hO rc.1 f1 rc.2.1)))) : Nat × va_E)] ++ [((o2, .inl (G 4, 1, .inr (.inr (.inr (.inl f2))))) : Nat × va_E)])) hP hD hkp hQ
  have hD : va_D A (lwW a B G o1 o2 rc.2.2 rm.2 (hO rc.1 f1 rc.2.1) f2) := lwD hD0
  clear hQ hz hkp
  generalize H1 = H at hP hS ⊢
  refine lv_istore (lv' := [(7, .int rm.1), (6, .int (hk_addProduction rc.1)), (5, .int (nI i)), (4, .ref o2), (3, .ref o1), (2, .ref (a 0)), (1, .ref (B 9 0)), (0, .ref b)]) hx hb dL_law_439 hl (by decide) rfl (fun ls hl => ?_)
  refine lv_aload_n hx hb dL_law_441 rfl (lv_at hl 5 rfl) ?_
  refine jVpI C dL_law_442 (k_X9_thrown l D G a N2 rm.2 (rm.2 0 0) rfl) jy_X9_thrown jq_15_8 jq_15_9 jq_15_10 ⟨rfl, rfl, Nat.le_of_ble_eq_true rfl, Nat.le_of_ble_eq_true rfl⟩ ⟨by show cells + 3 ≤ 603072; omega, by show slots + 18 ≤ 7174250; omega⟩ (jMidP (pre := []) (mid := wM a G rm.2) (post := wTS B G rc.2.2 ++ ([((o1, .inl (G 3, 1, .inr (.inl (hO rc.1 f1 rc.2.1)))) : Nat × va_E)] ++ [((o2, .inl (G 4, 1, .inr (.inr (.inr (.inl f2))))) : Nat × va_E)])) hP) (ci := 11) (iw := 0) rfl rfl rfl hl (As := []) (rest := []) rfl (Nat.le_of_ble_eq_true rfl) ?_
  refine lv_iload hx hb dL_law_445 (lv_at hl 1 rfl) ?_
  refine lv_icmp_eq (tgt := 452) hx hb dL_law_447 (by decide) (fun _ => ?_) (fun h => absurd ht h)
  refine lv_iload hx hb dL_law_452 (lv_at hl 1 rfl) ?_
  refine lv_if_ne (tgt := 469) hx hb dL_law_454 (by decide) (fun _ => ?_) (fun hz0 => ?_)
  · refine lv_goto (tgt := 2403) hx hb dL_law_469 (by decide) ?_
    exact kk rc.2.2 rm.2 (hO rc.1 f1 rc.2.1) f2 ls H locs hR2 hP hD hS (lv_sub hl [2, 3, 4, 5, 6, 7] rfl)
  · have hk0 : rc.1 = 0 := by
      rcases hk with hk | hk | hk
      · exact hk
      · rw [hk] at hz0; exact absurd hz0 (by decide)
      · rw [hk] at hz0; exact absurd hz0 (by decide)
    refine lv_aload_n hx hb dL_law_457 rfl (lv_at hl 4 rfl) ?_
    refine lv_iconst (v := 0) hx hb dL_law_458 (by decide) ?_
    rw [lwW_1] at hP
    refine va_lald (n := 1) hx hb hK hP ((wM a G rm.2).length + (wTS B G rc.2.2).length) 3 (jAt1 _ _ _ _) rfl (inb_of (by decide)) dL_law_459 ?_
    rw [← lwW_1] at hP
    refine lv_iload hx hb dL_law_460 (lv_at hl 0 rfl) ?_
    refine lv_i2l hx hb dL_law_462 rfl ?_
    refine W.lcmp hx hb dL_law_463 ?_
    have hzz : lg_cmp ((hO rc.1 f1 rc.2.1) (0 : Int32).toNatClampNeg) rm.1.toInt64 = 0 := lgc (by unfold hO; rw [if_pos hk0, hv hk0]; rfl)
    refine lv_if_eq (tgt := 469) hx hb dL_law_464 (by decide) (fun _ => ?_) (fun h => absurd hzz h)
    refine lv_goto (tgt := 2403) hx hb dL_law_469 (by decide) ?_
    exact kk rc.2.2 rm.2 (hO rc.1 f1 rc.2.1) f2 ls H locs hR2 hP hD hS (lv_sub hl [2, 3, 4, 5, 6, 7] rfl)
def jE_production (Rl : (Nat → Nat → Nat → Int32) → (Nat → Nat → Int32) → Prop) : Prop := ∀ (S : Nat → Nat → Nat → Int32) (M : Nat → Nat → Int32) (v1 v2 : Int32), Rl S M → ∃ (N1 : Nat) (rc : _) (N2 : Nat) (rm : _), F_X8_production N1 S v1 v2 = some rc ∧ F_X9_production N2 M v1 v2 = some rm ∧ (rc.1 = 0 ∨ rc.1 = 1 ∨ rc.1 = 2) ∧ rm.2 0 0 = hk_production rc.1 ∧ (rc.1 = 0 → rc.2.1 = rm.1) ∧ Rl rc.2.2 rm.2
theorem hy_production : hY yL_production cL_production 5 [(0, 10, 13, 13), (0, 10, 17, 15)] 4 := ⟨by decide +kernel, jq_20_17, jq_6_7⟩
set_option maxHeartbeats 4000000 in
set_option maxRecDepth 100000 in
theorem lc_production {p : Program} {l : Launch} {e : Env} {s : State} {m : MethodId} {args : Array Value} {below : List Frame} {meth : Method} {c : Code} {Q : State → Prop} {D : va_G} {G : Nat → ClassId} {A : Nat → Prop} {ks va : Nat → Nat} {b L i : Nat} {xs : Nat → Int32} {a : Nat → Nat} {B : Nat → Nat → Nat} {o1 o2 : Nat} {Rl : (Nat → Nat → Nat → Int32) → (Nat → Nat → Int32) → Prop} {ret : Option FieldType}
    (C : Cx p s m args meth c cL_law 9 RL ret D G) (hl0 : l.stackTraces = false) (hZ : jZ ks va A s s.heap) (hC : jC s) (hA : ∀ q : Nat, s.heap.size ≤ q → A q) (hX : va_X b L xs s s.heap) (hbl : b < s.heap.size) (hbA : ¬ A b) (h0 : vp_in (nI i) L) (h1 : vp_in (nI i + 1) L) (h2 : vp_in (nI i + 2) L) (h3 : vp_in (nI i + 3) L) (h4 : vp_in (nI i + 4) L) (hE : jE_production Rl) : ∀ (S : Nat → Nat → Nat → Int32) (M : Nat → Nat → Int32) (f1 : Nat → Int64) (f2 : Nat → UInt64) (ls : Array Slot) (H : Heap) (locs : List Loc) (cells slots : Nat), cells + 3 ≤ 603072 → slots + 18 ≤ 7174250 → Rl S M → va_P D vwCl (lwW a B G o1 o2 S M f1 f2) H → va_D A (lwW a B G o1 o2 S M f1 f2) → va_S A s.heap H locs → lv_has ls 9 [(5, .int (nI i)), (4, .ref o2), (3, .ref o1), (2, .ref (a 0)), (1, .ref (B 9 0)), (0, .ref b)] → (∀ (S : Nat → Nat → Nat → Int32) (M : Nat → Nat → Int32) (f1 : Nat → Int64) (f2 : Nat → UInt64) (ls : Array Slot) (H : Heap) (locs : List Loc), Rl S M → va_P D vwCl (lwW a B G o1 o2 S M f1 f2) H → va_D A (lwW a B G o1 o2 S M f1 f2) → va_S A s.heap H locs → lv_has ls 9 [(5, .int (nI i)), (4, .ref o2), (3, .ref o1), (2, .ref (a 0)), (1, .ref (B 9 0)), (0, .ref b)] → W p l e room_1 s m args below meth c H locs (cells + 3) (slots + 18) Q (F0 m 2403 ls [])) → W p l e room_1 s m args below meth c H locs cells slots Q (F0 m 472 ls []) := by
  intro S M f1 f2 ls H locs cells slots hcc hcs hR hP hD hS hl kk
  have hD0 := hD
  obtain ⟨hx, hb, hr, hml, hts, hown, hlocks, hK0⟩ := id C
  have hK := hK0.1
  refine lv_aload_n hx hb dL_law_472 rfl (lv_at hl 4 rfl) ?_
  refine lv_aload_n hx hb dL_law_473 rfl (lv_at hl 5 rfl) ?_
  refine lv_iload hx hb dL_law_474 (lv_at hl 0 rfl) ?_
  refine lv_iconst (v := 1) hx hb dL_law_476 (by decide) ?_
  refine lv_iadd hx hb dL_law_477 ?_
  refine va_sld hx hb hX hbl hbA hS h1 dL_law_478 ?_
  refine lv_aload_n hx hb dL_law_479 rfl (lv_at hl 5 rfl) ?_
  refine lv_iload hx hb dL_law_480 (lv_at hl 0 rfl) ?_
  refine lv_iconst (v := 2) hx hb dL_law_482 (by decide) ?_
  refine lv_iadd hx hb dL_law_483 ?_
  refine va_sld hx hb hX hbl hbA hS h2 dL_law_484 ?_
  refine lv_aload_n hx hb dL_law_485 rfl (lv_at hl 2 rfl) ?_
  obtain ⟨N1, rc, N2, rm, e1, e2, hk, ht, hv, hR2⟩ := hE S M (xs (nI i + 1).toNatClampNeg) (xs (nI i + 2).toNatClampNeg) hR
  rw [lwW_1] at hP hD
  refine jSh C dL_law_486 (kh_production l hl0 D G B ks va o1 f1 N1 S (xs (nI i + 1).toNatClampNeg) (xs (nI i + 2).toNatClampNeg) rc e1 hk) hy_production jq_20_15 jq_20_16 ⟨Nat.le_of_ble_eq_true rfl, Nat.le_of_ble_eq_true rfl⟩ ⟨by show cells + 2 ≤ 603072; omega, by show slots + 12 ≤ 7174250; omega⟩ hZ hC (jMidP (pre := wM a G M) (mid := wTS B G S ++ [((o1, .inl (G 3, 1, .inr (.inl f1))) : Nat × va_E)]) (post := [((o2, .inl (G 4, 1, .inr (.inr (.inr (.inl f2))))) : Nat × va_E)]) hP) (jMidD (pre := wM a G M) (mid := wTS B G S ++ [((o1, .inl (G 3, 1, .inr (.inl f1))) : Nat × va_E)]) (post := [((o2, .inl (G 4, 1, .inr (.inr (.inr (.inl f2))))) : Nat × va_E)]) hD) hA hS hl (As := [.ref (B 9 0), .int (xs (nI i + 1).toNatClampNeg), .int (xs (nI i + 2).toNatClampNeg), .ref o1]) (rest := []) rfl (Nat.le_of_ble_eq_true rfl) (fun H1 locs hQ hz hkp hS => ?_)
  have hP := jMidJoin (pre := wM a G M) (mid := wTS B G S ++ [((o1, .inl (G 3, 1, .inr (.inl f1))) : Nat × va_E)]) (mid' := wTS B G rc.2.2 ++ [((o1, .inl (G 3, 1, .inr (.inl (hO rc.1 f1 rc.2.1)))) : Nat × va_E)]) (post := [((o2, .inl (G 4, 1, .inr (.inr (.inr (.inl f2))))) : Nat × va_E)]) hP hD hkp hQ
  have hP : va_P D vwCl (lwW a B G o1 o2 rc.2.2 M (hO rc.1 f1 rc.2.1) f2) H1 := by rw [lwW_1]; exact hP
  have hD : va_D A (lwW a B G o1 o2 rc.2.2 M (hO rc.1 f1 rc.2.1) f2) := lwD hD0
  clear hQ hz hkp
  generalize H1 = H at hP hS ⊢
  refine W.widen (k := cells + 3) (n := slots + 18) (show cells + 2 ≤ cells + 3 by omega) (show slots + 12 ≤ slots + 18 by omega) ?_
  refine lv_istore (lv' := [(6, .int (hk_production rc.1)), (5, .int (nI i)), (4, .ref o2), (3, .ref o1), (2, .ref (a 0)), (1, .ref (B 9 0)), (0, .ref b)]) hx hb dL_law_489 hl (by decide) rfl (fun ls hl => ?_)
  refine lv_aload_n hx hb dL_law_491 rfl (lv_at hl 4 rfl) ?_
  refine lv_aload_n hx hb dL_law_492 rfl (lv_at hl 6 rfl) ?_
  refine lv_iload hx hb dL_law_493 (lv_at hl 1 rfl) ?_
  refine lv_iconst (v := 1) hx hb dL_law_495 (by decide) ?_
  refine lv_iadd hx hb dL_law_496 ?_
  refine va_sld hx hb hX hbl hbA hS h1 dL_law_497 ?_
  refine lv_aload_n hx hb dL_law_498 rfl (lv_at hl 6 rfl) ?_
  refine lv_iload hx hb dL_law_499 (lv_at hl 1 rfl) ?_
  refine lv_iconst (v := 2) hx hb dL_law_501 (by decide) ?_
  refine lv_iadd hx hb dL_law_502 ?_
  refine va_sld hx hb hX hbl hbA hS h2 dL_law_503 ?_
  refine jVmI C dL_law_504 (k_X9_production l D G a N2 M (xs (nI i + 1).toNatClampNeg) (xs (nI i + 2).toNatClampNeg) rm e2) jy_X9_production jq_21_21 jq_21_22 jq_21_23 ⟨rfl, rfl, Nat.le_of_ble_eq_true rfl, Nat.le_of_ble_eq_true rfl⟩ ⟨by show cells + 3 ≤ 603072; omega, by show slots + 18 ≤ 7174250; omega⟩ (jMidP (pre := []) (mid := wM a G M) (post := wTS B G rc.2.2 ++ ([((o1, .inl (G 3, 1, .inr (.inl (hO rc.1 f1 rc.2.1)))) : Nat × va_E)] ++ [((o2, .inl (G 4, 1, .inr (.inr (.inr (.inl f2))))) : Nat × va_E)])) hP) (jMidD (pre := []) (mid := wM a G M) (post := wTS B G rc.2.2 ++ ([((o1, .inl (G 3, 1, .inr (.inl (hO rc.1 f1 rc.2.1)))) : Nat × va_E)] ++ [((o2, .inl (G 4, 1, .inr (.inr (.inr (.inl f2))))) : Nat × va_E)])) hD) hA hS (ci := 11) (iw := 0) rfl rfl rfl hl (As := [.int (xs (nI i + 1).toNatClampNeg), .int (xs (nI i + 2).toNatClampNeg)]) (rest := []) rfl (Nat.le_of_ble_eq_true rfl) (fun H1 locs hQ hz hkp hS => ?_)
  have hP : va_P D vwCl (lwW a B G o1 o2 rc.2.2 rm.2 (hO rc.1 f1 rc.2.1) f2) H1 := jMidJoin (pre := []) (mid := wM a G M) (mid' := wM a G rm.2) (post := wTS B G rc.2.2 ++ ([((o1, .inl (G 3, 1, .inr (.inl (hO rc.1 f1 rc.2.1)))) : Nat × va_E)] ++ [((o2, .inl (G 4, 1, .inr (.inr (.inr (.inl f2))))) : Nat × va_E)])) hP hD hkp hQ
  have hD : va_D A (lwW a B G o1 o2 rc.2.2 rm.2 (hO rc.1 f1 rc.2.1) f2) := lwD hD0
  clear hQ hz hkp
  generalize H1 = H at hP hS ⊢
  refine lv_istore (lv' := [(7, .int rm.1), (6, .int (hk_production rc.1)), (5, .int (nI i)), (4, .ref o2), (3, .ref o1), (2, .ref (a 0)), (1, .ref (B 9 0)), (0, .ref b)]) hx hb dL_law_507 hl (by decide) rfl (fun ls hl => ?_)
  refine lv_aload_n hx hb dL_law_509 rfl (lv_at hl 5 rfl) ?_
  refine jVpI C dL_law_510 (k_X9_thrown l D G a N2 rm.2 (rm.2 0 0) rfl) jy_X9_thrown jq_15_8 jq_15_9 jq_15_10 ⟨rfl, rfl, Nat.le_of_ble_eq_true rfl, Nat.le_of_ble_eq_true rfl⟩ ⟨by show cells + 3 ≤ 603072; omega, by show slots + 18 ≤ 7174250; omega⟩ (jMidP (pre := []) (mid := wM a G rm.2) (post := wTS B G rc.2.2 ++ ([((o1, .inl (G 3, 1, .inr (.inl (hO rc.1 f1 rc.2.1)))) : Nat × va_E)] ++ [((o2, .inl (G 4, 1, .inr (.inr (.inr (.inl f2))))) : Nat × va_E)])) hP) (ci := 11) (iw := 0) rfl rfl rfl hl (As := []) (rest := []) rfl (Nat.le_of_ble_eq_true rfl) ?_
  refine lv_iload hx hb dL_law_513 (lv_at hl 1 rfl) ?_
  refine lv_icmp_eq (tgt := 520) hx hb dL_law_515 (by decide) (fun _ => ?_) (fun h => absurd ht h)
  refine lv_iload hx hb dL_law_520 (lv_at hl 1 rfl) ?_
  refine lv_if_ne (tgt := 537) hx hb dL_law_522 (by decide) (fun _ => ?_) (fun hz0 => ?_)
  · refine lv_goto (tgt := 2403) hx hb dL_law_537 (by decide) ?_
    exact kk rc.2.2 rm.2 (hO rc.1 f1 rc.2.1) f2 ls H locs hR2 hP hD hS (lv_sub hl [2, 3, 4, 5, 6, 7] rfl)
  · have hk0 : rc.1 = 0 := by
      rcases hk with hk | hk | hk
      · exact hk
      · rw [hk] at hz0; exact absurd hz0 (by decide)
      · rw [hk] at hz0; exact absurd hz0 (by decide)
    refine lv_aload_n hx hb dL_law_525 rfl (lv_at hl 4 rfl) ?_
    refine lv_iconst (v := 0) hx hb dL_law_526 (by decide) ?_
    rw [lwW_1] at hP
    refine va_lald (n := 1) hx hb hK hP ((wM a G rm.2).length + (wTS B G rc.2.2).length) 3 (jAt1 _ _ _ _) rfl (inb_of (by decide)) dL_law_527 ?_
    rw [← lwW_1] at hP
    refine lv_iload hx hb dL_law_528 (lv_at hl 0 rfl) ?_
    refine lv_i2l hx hb dL_law_530 rfl ?_
    refine W.lcmp hx hb dL_law_531 ?_
    have hzz : lg_cmp ((hO rc.1 f1 rc.2.1) (0 : Int32).toNatClampNeg) rm.1.toInt64 = 0 := lgc (by unfold hO; rw [if_pos hk0, hv hk0]; rfl)
    refine lv_if_eq (tgt := 537) hx hb dL_law_532 (by decide) (fun _ => ?_) (fun h => absurd hzz h)
    refine lv_goto (tgt := 2403) hx hb dL_law_537 (by decide) ?_
    exact kk rc.2.2 rm.2 (hO rc.1 f1 rc.2.1) f2 ls H locs hR2 hP hD hS (lv_sub hl [2, 3, 4, 5, 6, 7] rfl)
def jE_perform (Rl : (Nat → Nat → Nat → Int32) → (Nat → Nat → Int32) → Prop) : Prop := ∀ (S : Nat → Nat → Nat → Int32) (M : Nat → Nat → Int32) (v1 v2 v3 : Int32), Rl S M → ∃ (N1 : Nat) (rc : _) (N2 : Nat) (rm : _), F_X8_perform N1 S v1 v2 v3 = some rc ∧ F_X9_perform N2 M v1 v2 v3 = some rm ∧ (rc.1 = 0 ∨ rc.1 = 1 ∨ rc.1 = 2 ∨ rc.1 = 3 ∨ rc.1 = 4) ∧ rm.2 0 0 = hk_perform rc.1 ∧ (rc.1 = 0 → rc.2.1 = rm.1) ∧ Rl rc.2.2 rm.2
theorem hy_perform : hY yL_perform cL_perform 6 [(0, 12, 15, 13), (0, 12, 19, 15), (0, 12, 23, 30), (0, 12, 27, 17)] 5 := ⟨by decide +kernel, jq_22_15, jq_6_7⟩
set_option maxHeartbeats 4000000 in
set_option maxRecDepth 100000 in
theorem lc_perform {p : Program} {l : Launch} {e : Env} {s : State} {m : MethodId} {args : Array Value} {below : List Frame} {meth : Method} {c : Code} {Q : State → Prop} {D : va_G} {G : Nat → ClassId} {A : Nat → Prop} {ks va : Nat → Nat} {b L i : Nat} {xs : Nat → Int32} {a : Nat → Nat} {B : Nat → Nat → Nat} {o1 o2 : Nat} {Rl : (Nat → Nat → Nat → Int32) → (Nat → Nat → Int32) → Prop} {ret : Option FieldType}
    (C : Cx p s m args meth c cL_law 9 RL ret D G) (hl0 : l.stackTraces = false) (hZ : jZ ks va A s s.heap) (hC : jC s) (hA : ∀ q : Nat, s.heap.size ≤ q → A q) (hX : va_X b L xs s s.heap) (hbl : b < s.heap.size) (hbA : ¬ A b) (h0 : vp_in (nI i) L) (h1 : vp_in (nI i + 1) L) (h2 : vp_in (nI i + 2) L) (h3 : vp_in (nI i + 3) L) (h4 : vp_in (nI i + 4) L) (hE : jE_perform Rl) : ∀ (S : Nat → Nat → Nat → Int32) (M : Nat → Nat → Int32) (f1 : Nat → Int64) (f2 : Nat → UInt64) (ls : Array Slot) (H : Heap) (locs : List Loc) (cells slots : Nat), cells + 3 ≤ 603072 → slots + 18 ≤ 7174250 → Rl S M → va_P D vwCl (lwW a B G o1 o2 S M f1 f2) H → va_D A (lwW a B G o1 o2 S M f1 f2) → va_S A s.heap H locs → lv_has ls 9 [(5, .int (nI i)), (4, .ref o2), (3, .ref o1), (2, .ref (a 0)), (1, .ref (B 9 0)), (0, .ref b)] → (∀ (S : Nat → Nat → Nat → Int32) (M : Nat → Nat → Int32) (f1 : Nat → Int64) (f2 : Nat → UInt64) (ls : Array Slot) (H : Heap) (locs : List Loc), Rl S M → va_P D vwCl (lwW a B G o1 o2 S M f1 f2) H → va_D A (lwW a B G o1 o2 S M f1 f2) → va_S A s.heap H locs → lv_has ls 9 [(5, .int (nI i)), (4, .ref o2), (3, .ref o1), (2, .ref (a 0)), (1, .ref (B 9 0)), (0, .ref b)] → W p l e room_1 s m args below meth c H locs (cells + 3) (slots + 18) Q (F0 m 2403 ls [])) → W p l e room_1 s m args below meth c H locs cells slots Q (F0 m 540 ls []) := by
  intro S M f1 f2 ls H locs cells slots hcc hcs hR hP hD hS hl kk
  have hD0 := hD
  obtain ⟨hx, hb, hr, hml, hts, hown, hlocks, hK0⟩ := id C
  have hK := hK0.1
  refine lv_aload_n hx hb dL_law_540 rfl (lv_at hl 4 rfl) ?_
  refine lv_aload_n hx hb dL_law_541 rfl (lv_at hl 5 rfl) ?_
  refine lv_iload hx hb dL_law_542 (lv_at hl 0 rfl) ?_
  refine lv_iconst (v := 1) hx hb dL_law_544 (by decide) ?_
  refine lv_iadd hx hb dL_law_545 ?_
  refine va_sld hx hb hX hbl hbA hS h1 dL_law_546 ?_
  refine lv_aload_n hx hb dL_law_547 rfl (lv_at hl 5 rfl) ?_
  refine lv_iload hx hb dL_law_548 (lv_at hl 0 rfl) ?_
  refine lv_iconst (v := 2) hx hb dL_law_550 (by decide) ?_
  refine lv_iadd hx hb dL_law_551 ?_
  refine va_sld hx hb hX hbl hbA hS h2 dL_law_552 ?_
  refine lv_aload_n hx hb dL_law_553 rfl (lv_at hl 5 rfl) ?_
  refine lv_iload hx hb dL_law_554 (lv_at hl 0 rfl) ?_
  refine lv_iconst (v := 3) hx hb dL_law_556 (by decide) ?_
  refine lv_iadd hx hb dL_law_557 ?_
  refine va_sld hx hb hX hbl hbA hS h3 dL_law_558 ?_
  refine lv_aload_n hx hb dL_law_559 rfl (lv_at hl 2 rfl) ?_
  obtain ⟨N1, rc, N2, rm, e1, e2, hk, ht, hv, hR2⟩ := hE S M (xs (nI i + 1).toNatClampNeg) (xs (nI i + 2).toNatClampNeg) (xs (nI i + 3).toNatClampNeg) hR
  rw [lwW_1] at hP hD
  refine jSh C dL_law_560 (kh_perform l hl0 D G B ks va o1 f1 N1 S (xs (nI i + 1).toNatClampNeg) (xs (nI i + 2).toNatClampNeg) (xs (nI i + 3).toNatClampNeg) rc e1 hk) hy_perform jq_22_13 jq_22_14 ⟨Nat.le_of_ble_eq_true rfl, Nat.le_of_ble_eq_true rfl⟩ ⟨by show cells + 3 ≤ 603072; omega, by show slots + 18 ≤ 7174250; omega⟩ hZ hC (jMidP (pre := wM a G M) (mid := wTS B G S ++ [((o1, .inl (G 3, 1, .inr (.inl f1))) : Nat × va_E)]) (post := [((o2, .inl (G 4, 1, .inr (.inr (.inr (.inl f2))))) : Nat × va_E)]) hP) (jMidD (pre := wM a G M) (mid := wTS B G S ++ [((o1, .inl (G 3, 1, .inr (.inl f1))) : Nat × va_E)]) (post := [((o2, .inl (G 4, 1, .inr (.inr (.inr (.inl f2))))) : Nat × va_E)]) hD) hA hS hl (As := [.ref (B 9 0), .int (xs (nI i + 1).toNatClampNeg), .int (xs (nI i + 2).toNatClampNeg), .int (xs (nI i + 3).toNatClampNeg), .ref o1]) (rest := []) rfl (Nat.le_of_ble_eq_true rfl) (fun H1 locs hQ hz hkp hS => ?_)
  have hP := jMidJoin (pre := wM a G M) (mid := wTS B G S ++ [((o1, .inl (G 3, 1, .inr (.inl f1))) : Nat × va_E)]) (mid' := wTS B G rc.2.2 ++ [((o1, .inl (G 3, 1, .inr (.inl (hO rc.1 f1 rc.2.1)))) : Nat × va_E)]) (post := [((o2, .inl (G 4, 1, .inr (.inr (.inr (.inl f2))))) : Nat × va_E)]) hP hD hkp hQ
  have hP : va_P D vwCl (lwW a B G o1 o2 rc.2.2 M (hO rc.1 f1 rc.2.1) f2) H1 := by rw [lwW_1]; exact hP
  have hD : va_D A (lwW a B G o1 o2 rc.2.2 M (hO rc.1 f1 rc.2.1) f2) := lwD hD0
  clear hQ hz hkp
  generalize H1 = H at hP hS ⊢
  refine W.widen (k := cells + 3) (n := slots + 18) (show cells + 3 ≤ cells + 3 by omega) (show slots + 18 ≤ slots + 18 by omega) ?_
  refine lv_istore (lv' := [(6, .int (hk_perform rc.1)), (5, .int (nI i)), (4, .ref o2), (3, .ref o1), (2, .ref (a 0)), (1, .ref (B 9 0)), (0, .ref b)]) hx hb dL_law_563 hl (by decide) rfl (fun ls hl => ?_)
  refine lv_aload_n hx hb dL_law_565 rfl (lv_at hl 4 rfl) ?_
  refine lv_aload_n hx hb dL_law_566 rfl (lv_at hl 6 rfl) ?_
  refine lv_iload hx hb dL_law_567 (lv_at hl 1 rfl) ?_
  refine lv_iconst (v := 1) hx hb dL_law_569 (by decide) ?_
  refine lv_iadd hx hb dL_law_570 ?_
  refine va_sld hx hb hX hbl hbA hS h1 dL_law_571 ?_
  refine lv_aload_n hx hb dL_law_572 rfl (lv_at hl 6 rfl) ?_
  refine lv_iload hx hb dL_law_573 (lv_at hl 1 rfl) ?_
  refine lv_iconst (v := 2) hx hb dL_law_575 (by decide) ?_
  refine lv_iadd hx hb dL_law_576 ?_
  refine va_sld hx hb hX hbl hbA hS h2 dL_law_577 ?_
  refine lv_aload_n hx hb dL_law_578 rfl (lv_at hl 6 rfl) ?_
  refine lv_iload hx hb dL_law_579 (lv_at hl 1 rfl) ?_
  refine lv_iconst (v := 3) hx hb dL_law_581 (by decide) ?_
  refine lv_iadd hx hb dL_law_582 ?_
  refine va_sld hx hb hX hbl hbA hS h3 dL_law_583 ?_
  refine jVmI C dL_law_584 (k_X9_perform l D G a N2 M (xs (nI i + 1).toNatClampNeg) (xs (nI i + 2).toNatClampNeg) (xs (nI i + 3).toNatClampNeg) rm e2) jy_X9_perform jq_24_0 jq_24_1 jq_24_2 ⟨rfl, rfl, Nat.le_of_ble_eq_true rfl, Nat.le_of_ble_eq_true rfl⟩ ⟨by show cells + 3 ≤ 603072; omega, by show slots + 18 ≤ 7174250; omega⟩ (jMidP (pre := []) (mid := wM a G M) (post := wTS B G rc.2.2 ++ ([((o1, .inl (G 3, 1, .inr (.inl (hO rc.1 f1 rc.2.1)))) : Nat × va_E)] ++ [((o2, .inl (G 4, 1, .inr (.inr (.inr (.inl f2))))) : Nat × va_E)])) hP) (jMidD (pre := []) (mid := wM a G M) (post := wTS B G rc.2.2 ++ ([((o1, .inl (G 3, 1, .inr (.inl (hO rc.1 f1 rc.2.1)))) : Nat × va_E)] ++ [((o2, .inl (G 4, 1, .inr (.inr (.inr (.inl f2))))) : Nat × va_E)])) hD) hA hS (ci := 11) (iw := 0) rfl rfl rfl hl (As := [.int (xs (nI i + 1).toNatClampNeg), .int (xs (nI i + 2).toNatClampNeg), .int (xs (nI i + 3).toNatClampNeg)]) (rest := []) rfl (Nat.le_of_ble_eq_true rfl) (fun H1 locs hQ hz hkp hS => ?_)
  have hP : va_P D vwCl (lwW a B G o1 o2 rc.2.2 rm.2 (hO rc.1 f1 rc.2.1) f2) H1 := jMidJoin (pre := []) (mid := wM a G M) (mid' := wM a G rm.2) (post := wTS B G rc.2.2 ++ ([((o1, .inl (G 3, 1, .inr (.inl (hO rc.1 f1 rc.2.1)))) : Nat × va_E)] ++ [((o2, .inl (G 4, 1, .inr (.inr (.inr (.inl f2))))) : Nat × va_E)])) hP hD hkp hQ
  have hD : va_D A (lwW a B G o1 o2 rc.2.2 rm.2 (hO rc.1 f1 rc.2.1) f2) := lwD hD0
  clear hQ hz hkp
  generalize H1 = H at hP hS ⊢
  refine lv_istore (lv' := [(7, .int rm.1), (6, .int (hk_perform rc.1)), (5, .int (nI i)), (4, .ref o2), (3, .ref o1), (2, .ref (a 0)), (1, .ref (B 9 0)), (0, .ref b)]) hx hb dL_law_587 hl (by decide) rfl (fun ls hl => ?_)
  refine lv_aload_n hx hb dL_law_589 rfl (lv_at hl 5 rfl) ?_
  refine jVpI C dL_law_590 (k_X9_thrown l D G a N2 rm.2 (rm.2 0 0) rfl) jy_X9_thrown jq_15_8 jq_15_9 jq_15_10 ⟨rfl, rfl, Nat.le_of_ble_eq_true rfl, Nat.le_of_ble_eq_true rfl⟩ ⟨by show cells + 3 ≤ 603072; omega, by show slots + 18 ≤ 7174250; omega⟩ (jMidP (pre := []) (mid := wM a G rm.2) (post := wTS B G rc.2.2 ++ ([((o1, .inl (G 3, 1, .inr (.inl (hO rc.1 f1 rc.2.1)))) : Nat × va_E)] ++ [((o2, .inl (G 4, 1, .inr (.inr (.inr (.inl f2))))) : Nat × va_E)])) hP) (ci := 11) (iw := 0) rfl rfl rfl hl (As := []) (rest := []) rfl (Nat.le_of_ble_eq_true rfl) ?_
  refine lv_iload hx hb dL_law_593 (lv_at hl 1 rfl) ?_
  refine lv_icmp_eq (tgt := 600) hx hb dL_law_595 (by decide) (fun _ => ?_) (fun h => absurd ht h)
  refine lv_iload hx hb dL_law_600 (lv_at hl 1 rfl) ?_
  refine lv_if_ne (tgt := 617) hx hb dL_law_602 (by decide) (fun _ => ?_) (fun hz0 => ?_)
  · refine lv_goto (tgt := 2403) hx hb dL_law_617 (by decide) ?_
    exact kk rc.2.2 rm.2 (hO rc.1 f1 rc.2.1) f2 ls H locs hR2 hP hD hS (lv_sub hl [2, 3, 4, 5, 6, 7] rfl)
  · have hk0 : rc.1 = 0 := by
      rcases hk with hk | hk | hk | hk | hk
      · exact hk
      · rw [hk] at hz0; exact absurd hz0 (by decide)
      · rw [hk] at hz0; exact absurd hz0 (by decide)
      · rw [hk] at hz0; exact absurd hz0 (by decide)
      · rw [hk] at hz0; exact absurd hz0 (by decide)
    refine lv_aload_n hx hb dL_law_605 rfl (lv_at hl 4 rfl) ?_
    refine lv_iconst (v := 0) hx hb dL_law_606 (by decide) ?_
    rw [lwW_1] at hP
    refine va_lald (n := 1) hx hb hK hP ((wM a G rm.2).length + (wTS B G rc.2.2).length) 3 (jAt1 _ _ _ _) rfl (inb_of (by decide)) dL_law_607 ?_
    rw [← lwW_1] at hP
    refine lv_iload hx hb dL_law_608 (lv_at hl 0 rfl) ?_
    refine lv_i2l hx hb dL_law_610 rfl ?_
    refine W.lcmp hx hb dL_law_611 ?_
    have hzz : lg_cmp ((hO rc.1 f1 rc.2.1) (0 : Int32).toNatClampNeg) rm.1.toInt64 = 0 := lgc (by unfold hO; rw [if_pos hk0, hv hk0]; rfl)
    refine lv_if_eq (tgt := 617) hx hb dL_law_612 (by decide) (fun _ => ?_) (fun h => absurd hzz h)
    refine lv_goto (tgt := 2403) hx hb dL_law_617 (by decide) ?_
    exact kk rc.2.2 rm.2 (hO rc.1 f1 rc.2.1) f2 ls H locs hR2 hP hD hS (lv_sub hl [2, 3, 4, 5, 6, 7] rfl)
def jE_cancel (Rl : (Nat → Nat → Nat → Int32) → (Nat → Nat → Int32) → Prop) : Prop := ∀ (S : Nat → Nat → Nat → Int32) (M : Nat → Nat → Int32) (v1 : Int32), Rl S M → ∃ (N1 : Nat) (rc : _) (N2 : Nat) (rm : _), F_X8_cancel N1 S v1 = some rc ∧ F_X9_cancel N2 M v1 = some rm ∧ (rc.1 = 0 ∨ rc.1 = 1 ∨ rc.1 = 4) ∧ rm.2 0 0 = hk_cancel rc.1 ∧ (rc.1 = 0 → rc.2.1 = rm.1) ∧ Rl rc.2.2 rm.2
theorem hy_cancel : hY yL_cancel cL_cancel 4 [(0, 9, 12, 13), (0, 9, 15, 17)] 3 := ⟨by decide +kernel, jq_24_21, jq_6_7⟩
set_option maxHeartbeats 4000000 in
set_option maxRecDepth 100000 in
theorem lc_cancel {p : Program} {l : Launch} {e : Env} {s : State} {m : MethodId} {args : Array Value} {below : List Frame} {meth : Method} {c : Code} {Q : State → Prop} {D : va_G} {G : Nat → ClassId} {A : Nat → Prop} {ks va : Nat → Nat} {b L i : Nat} {xs : Nat → Int32} {a : Nat → Nat} {B : Nat → Nat → Nat} {o1 o2 : Nat} {Rl : (Nat → Nat → Nat → Int32) → (Nat → Nat → Int32) → Prop} {ret : Option FieldType}
    (C : Cx p s m args meth c cL_law 9 RL ret D G) (hl0 : l.stackTraces = false) (hZ : jZ ks va A s s.heap) (hC : jC s) (hA : ∀ q : Nat, s.heap.size ≤ q → A q) (hX : va_X b L xs s s.heap) (hbl : b < s.heap.size) (hbA : ¬ A b) (h0 : vp_in (nI i) L) (h1 : vp_in (nI i + 1) L) (h2 : vp_in (nI i + 2) L) (h3 : vp_in (nI i + 3) L) (h4 : vp_in (nI i + 4) L) (hE : jE_cancel Rl) : ∀ (S : Nat → Nat → Nat → Int32) (M : Nat → Nat → Int32) (f1 : Nat → Int64) (f2 : Nat → UInt64) (ls : Array Slot) (H : Heap) (locs : List Loc) (cells slots : Nat), cells + 3 ≤ 603072 → slots + 18 ≤ 7174250 → Rl S M → va_P D vwCl (lwW a B G o1 o2 S M f1 f2) H → va_D A (lwW a B G o1 o2 S M f1 f2) → va_S A s.heap H locs → lv_has ls 9 [(5, .int (nI i)), (4, .ref o2), (3, .ref o1), (2, .ref (a 0)), (1, .ref (B 9 0)), (0, .ref b)] → (∀ (S : Nat → Nat → Nat → Int32) (M : Nat → Nat → Int32) (f1 : Nat → Int64) (f2 : Nat → UInt64) (ls : Array Slot) (H : Heap) (locs : List Loc), Rl S M → va_P D vwCl (lwW a B G o1 o2 S M f1 f2) H → va_D A (lwW a B G o1 o2 S M f1 f2) → va_S A s.heap H locs → lv_has ls 9 [(5, .int (nI i)), (4, .ref o2), (3, .ref o1), (2, .ref (a 0)), (1, .ref (B 9 0)), (0, .ref b)] → W p l e room_1 s m args below meth c H locs (cells + 3) (slots + 18) Q (F0 m 2403 ls [])) → W p l e room_1 s m args below meth c H locs cells slots Q (F0 m 620 ls []) := by
  intro S M f1 f2 ls H locs cells slots hcc hcs hR hP hD hS hl kk
  have hD0 := hD
  obtain ⟨hx, hb, hr, hml, hts, hown, hlocks, hK0⟩ := id C
  have hK := hK0.1
  refine lv_aload_n hx hb dL_law_620 rfl (lv_at hl 4 rfl) ?_
  refine lv_aload_n hx hb dL_law_621 rfl (lv_at hl 5 rfl) ?_
  refine lv_iload hx hb dL_law_622 (lv_at hl 0 rfl) ?_
  refine lv_iconst (v := 1) hx hb dL_law_624 (by decide) ?_
  refine lv_iadd hx hb dL_law_625 ?_
  refine va_sld hx hb hX hbl hbA hS h1 dL_law_626 ?_
  refine lv_aload_n hx hb dL_law_627 rfl (lv_at hl 2 rfl) ?_
  obtain ⟨N1, rc, N2, rm, e1, e2, hk, ht, hv, hR2⟩ := hE S M (xs (nI i + 1).toNatClampNeg) hR
  rw [lwW_1] at hP hD
  refine jSh C dL_law_628 (kh_cancel l hl0 D G B ks va o1 f1 N1 S (xs (nI i + 1).toNatClampNeg) rc e1 hk) hy_cancel jq_24_19 jq_24_20 ⟨Nat.le_of_ble_eq_true rfl, Nat.le_of_ble_eq_true rfl⟩ ⟨by show cells + 3 ≤ 603072; omega, by show slots + 18 ≤ 7174250; omega⟩ hZ hC (jMidP (pre := wM a G M) (mid := wTS B G S ++ [((o1, .inl (G 3, 1, .inr (.inl f1))) : Nat × va_E)]) (post := [((o2, .inl (G 4, 1, .inr (.inr (.inr (.inl f2))))) : Nat × va_E)]) hP) (jMidD (pre := wM a G M) (mid := wTS B G S ++ [((o1, .inl (G 3, 1, .inr (.inl f1))) : Nat × va_E)]) (post := [((o2, .inl (G 4, 1, .inr (.inr (.inr (.inl f2))))) : Nat × va_E)]) hD) hA hS hl (As := [.ref (B 9 0), .int (xs (nI i + 1).toNatClampNeg), .ref o1]) (rest := []) rfl (Nat.le_of_ble_eq_true rfl) (fun H1 locs hQ hz hkp hS => ?_)
  have hP := jMidJoin (pre := wM a G M) (mid := wTS B G S ++ [((o1, .inl (G 3, 1, .inr (.inl f1))) : Nat × va_E)]) (mid' := wTS B G rc.2.2 ++ [((o1, .inl (G 3, 1, .inr (.inl (hO rc.1 f1 rc.2.1)))) : Nat × va_E)]) (post := [((o2, .inl (G 4, 1, .inr (.inr (.inr (.inl f2))))) : Nat × va_E)]) hP hD hkp hQ
  have hP : va_P D vwCl (lwW a B G o1 o2 rc.2.2 M (hO rc.1 f1 rc.2.1) f2) H1 := by rw [lwW_1]; exact hP
  have hD : va_D A (lwW a B G o1 o2 rc.2.2 M (hO rc.1 f1 rc.2.1) f2) := lwD hD0
  clear hQ hz hkp
  generalize H1 = H at hP hS ⊢
  refine W.widen (k := cells + 3) (n := slots + 18) (show cells + 3 ≤ cells + 3 by omega) (show slots + 18 ≤ slots + 18 by omega) ?_
  refine lv_istore (lv' := [(6, .int (hk_cancel rc.1)), (5, .int (nI i)), (4, .ref o2), (3, .ref o1), (2, .ref (a 0)), (1, .ref (B 9 0)), (0, .ref b)]) hx hb dL_law_631 hl (by decide) rfl (fun ls hl => ?_)
  refine lv_aload_n hx hb dL_law_633 rfl (lv_at hl 4 rfl) ?_
  refine lv_aload_n hx hb dL_law_634 rfl (lv_at hl 6 rfl) ?_
  refine lv_iload hx hb dL_law_635 (lv_at hl 1 rfl) ?_
  refine lv_iconst (v := 1) hx hb dL_law_637 (by decide) ?_
  refine lv_iadd hx hb dL_law_638 ?_
  refine va_sld hx hb hX hbl hbA hS h1 dL_law_639 ?_
  refine jVmI C dL_law_640 (k_X9_cancel l D G a N2 M (xs (nI i + 1).toNatClampNeg) rm e2) jy_X9_cancel jq_25_17 jq_25_18 jq_25_19 ⟨rfl, rfl, Nat.le_of_ble_eq_true rfl, Nat.le_of_ble_eq_true rfl⟩ ⟨by show cells + 3 ≤ 603072; omega, by show slots + 18 ≤ 7174250; omega⟩ (jMidP (pre := []) (mid := wM a G M) (post := wTS B G rc.2.2 ++ ([((o1, .inl (G 3, 1, .inr (.inl (hO rc.1 f1 rc.2.1)))) : Nat × va_E)] ++ [((o2, .inl (G 4, 1, .inr (.inr (.inr (.inl f2))))) : Nat × va_E)])) hP) (jMidD (pre := []) (mid := wM a G M) (post := wTS B G rc.2.2 ++ ([((o1, .inl (G 3, 1, .inr (.inl (hO rc.1 f1 rc.2.1)))) : Nat × va_E)] ++ [((o2, .inl (G 4, 1, .inr (.inr (.inr (.inl f2))))) : Nat × va_E)])) hD) hA hS (ci := 11) (iw := 0) rfl rfl rfl hl (As := [.int (xs (nI i + 1).toNatClampNeg)]) (rest := []) rfl (Nat.le_of_ble_eq_true rfl) (fun H1 locs hQ hz hkp hS => ?_)
  have hP : va_P D vwCl (lwW a B G o1 o2 rc.2.2 rm.2 (hO rc.1 f1 rc.2.1) f2) H1 := jMidJoin (pre := []) (mid := wM a G M) (mid' := wM a G rm.2) (post := wTS B G rc.2.2 ++ ([((o1, .inl (G 3, 1, .inr (.inl (hO rc.1 f1 rc.2.1)))) : Nat × va_E)] ++ [((o2, .inl (G 4, 1, .inr (.inr (.inr (.inl f2))))) : Nat × va_E)])) hP hD hkp hQ
  have hD : va_D A (lwW a B G o1 o2 rc.2.2 rm.2 (hO rc.1 f1 rc.2.1) f2) := lwD hD0
  clear hQ hz hkp
  generalize H1 = H at hP hS ⊢
  refine lv_istore (lv' := [(7, .int rm.1), (6, .int (hk_cancel rc.1)), (5, .int (nI i)), (4, .ref o2), (3, .ref o1), (2, .ref (a 0)), (1, .ref (B 9 0)), (0, .ref b)]) hx hb dL_law_643 hl (by decide) rfl (fun ls hl => ?_)
  refine lv_aload_n hx hb dL_law_645 rfl (lv_at hl 5 rfl) ?_
  refine jVpI C dL_law_646 (k_X9_thrown l D G a N2 rm.2 (rm.2 0 0) rfl) jy_X9_thrown jq_15_8 jq_15_9 jq_15_10 ⟨rfl, rfl, Nat.le_of_ble_eq_true rfl, Nat.le_of_ble_eq_true rfl⟩ ⟨by show cells + 3 ≤ 603072; omega, by show slots + 18 ≤ 7174250; omega⟩ (jMidP (pre := []) (mid := wM a G rm.2) (post := wTS B G rc.2.2 ++ ([((o1, .inl (G 3, 1, .inr (.inl (hO rc.1 f1 rc.2.1)))) : Nat × va_E)] ++ [((o2, .inl (G 4, 1, .inr (.inr (.inr (.inl f2))))) : Nat × va_E)])) hP) (ci := 11) (iw := 0) rfl rfl rfl hl (As := []) (rest := []) rfl (Nat.le_of_ble_eq_true rfl) ?_
  refine lv_iload hx hb dL_law_649 (lv_at hl 1 rfl) ?_
  refine lv_icmp_eq (tgt := 656) hx hb dL_law_651 (by decide) (fun _ => ?_) (fun h => absurd ht h)
  refine lv_iload hx hb dL_law_656 (lv_at hl 1 rfl) ?_
  refine lv_if_ne (tgt := 673) hx hb dL_law_658 (by decide) (fun _ => ?_) (fun hz0 => ?_)
  · refine lv_goto (tgt := 2403) hx hb dL_law_673 (by decide) ?_
    exact kk rc.2.2 rm.2 (hO rc.1 f1 rc.2.1) f2 ls H locs hR2 hP hD hS (lv_sub hl [2, 3, 4, 5, 6, 7] rfl)
  · have hk0 : rc.1 = 0 := by
      rcases hk with hk | hk | hk
      · exact hk
      · rw [hk] at hz0; exact absurd hz0 (by decide)
      · rw [hk] at hz0; exact absurd hz0 (by decide)
    refine lv_aload_n hx hb dL_law_661 rfl (lv_at hl 4 rfl) ?_
    refine lv_iconst (v := 0) hx hb dL_law_662 (by decide) ?_
    rw [lwW_1] at hP
    refine va_lald (n := 1) hx hb hK hP ((wM a G rm.2).length + (wTS B G rc.2.2).length) 3 (jAt1 _ _ _ _) rfl (inb_of (by decide)) dL_law_663 ?_
    rw [← lwW_1] at hP
    refine lv_iload hx hb dL_law_664 (lv_at hl 0 rfl) ?_
    refine lv_i2l hx hb dL_law_666 rfl ?_
    refine W.lcmp hx hb dL_law_667 ?_
    have hzz : lg_cmp ((hO rc.1 f1 rc.2.1) (0 : Int32).toNatClampNeg) rm.1.toInt64 = 0 := lgc (by unfold hO; rw [if_pos hk0, hv hk0]; rfl)
    refine lv_if_eq (tgt := 673) hx hb dL_law_668 (by decide) (fun _ => ?_) (fun h => absurd hzz h)
    refine lv_goto (tgt := 2403) hx hb dL_law_673 (by decide) ?_
    exact kk rc.2.2 rm.2 (hO rc.1 f1 rc.2.1) f2 ls H locs hR2 hP hD hS (lv_sub hl [2, 3, 4, 5, 6, 7] rfl)
def jE_move (Rl : (Nat → Nat → Nat → Int32) → (Nat → Nat → Int32) → Prop) : Prop := ∀ (S : Nat → Nat → Nat → Int32) (M : Nat → Nat → Int32) (v1 v2 : Int32), Rl S M → ∃ (N1 : Nat) (rc : _) (N2 : Nat) (rm : _), F_X8_move N1 S v1 v2 = some rc ∧ F_X9_move N2 M v1 v2 = some rm ∧ (rc.1 = 0 ∨ rc.1 = 1 ∨ rc.1 = 2 ∨ rc.1 = 4) ∧ rm.2 0 0 = hk_move rc.1 ∧ (rc.1 = 0 → rc.2.1 = rm.1) ∧ Rl rc.2.2 rm.2
theorem hy_move : hY yL_move cL_move 5 [(0, 10, 13, 13), (0, 10, 17, 15), (0, 10, 21, 17)] 4 := ⟨by decide +kernel, jq_26_7, jq_6_7⟩
set_option maxHeartbeats 4000000 in
set_option maxRecDepth 100000 in
theorem lc_move {p : Program} {l : Launch} {e : Env} {s : State} {m : MethodId} {args : Array Value} {below : List Frame} {meth : Method} {c : Code} {Q : State → Prop} {D : va_G} {G : Nat → ClassId} {A : Nat → Prop} {ks va : Nat → Nat} {b L i : Nat} {xs : Nat → Int32} {a : Nat → Nat} {B : Nat → Nat → Nat} {o1 o2 : Nat} {Rl : (Nat → Nat → Nat → Int32) → (Nat → Nat → Int32) → Prop} {ret : Option FieldType}
    (C : Cx p s m args meth c cL_law 9 RL ret D G) (hl0 : l.stackTraces = false) (hZ : jZ ks va A s s.heap) (hC : jC s) (hA : ∀ q : Nat, s.heap.size ≤ q → A q) (hX : va_X b L xs s s.heap) (hbl : b < s.heap.size) (hbA : ¬ A b) (h0 : vp_in (nI i) L) (h1 : vp_in (nI i + 1) L) (h2 : vp_in (nI i + 2) L) (h3 : vp_in (nI i + 3) L) (h4 : vp_in (nI i + 4) L) (hE : jE_move Rl) : ∀ (S : Nat → Nat → Nat → Int32) (M : Nat → Nat → Int32) (f1 : Nat → Int64) (f2 : Nat → UInt64) (ls : Array Slot) (H : Heap) (locs : List Loc) (cells slots : Nat), cells + 3 ≤ 603072 → slots + 18 ≤ 7174250 → Rl S M → va_P D vwCl (lwW a B G o1 o2 S M f1 f2) H → va_D A (lwW a B G o1 o2 S M f1 f2) → va_S A s.heap H locs → lv_has ls 9 [(5, .int (nI i)), (4, .ref o2), (3, .ref o1), (2, .ref (a 0)), (1, .ref (B 9 0)), (0, .ref b)] → (∀ (S : Nat → Nat → Nat → Int32) (M : Nat → Nat → Int32) (f1 : Nat → Int64) (f2 : Nat → UInt64) (ls : Array Slot) (H : Heap) (locs : List Loc), Rl S M → va_P D vwCl (lwW a B G o1 o2 S M f1 f2) H → va_D A (lwW a B G o1 o2 S M f1 f2) → va_S A s.heap H locs → lv_has ls 9 [(5, .int (nI i)), (4, .ref o2), (3, .ref o1), (2, .ref (a 0)), (1, .ref (B 9 0)), (0, .ref b)] → W p l e room_1 s m args below meth c H locs (cells + 3) (slots + 18) Q (F0 m 2403 ls [])) → W p l e room_1 s m args below meth c H locs cells slots Q (F0 m 676 ls []) := by
  intro S M f1 f2 ls H locs cells slots hcc hcs hR hP hD hS hl kk
  have hD0 := hD
  obtain ⟨hx, hb, hr, hml, hts, hown, hlocks, hK0⟩ := id C
  have hK := hK0.1
  refine lv_aload_n hx hb dL_law_676 rfl (lv_at hl 4 rfl) ?_
  refine lv_aload_n hx hb dL_law_677 rfl (lv_at hl 5 rfl) ?_
  refine lv_iload hx hb dL_law_678 (lv_at hl 0 rfl) ?_
  refine lv_iconst (v := 1) hx hb dL_law_680 (by decide) ?_
  refine lv_iadd hx hb dL_law_681 ?_
  refine va_sld hx hb hX hbl hbA hS h1 dL_law_682 ?_
  refine lv_aload_n hx hb dL_law_683 rfl (lv_at hl 5 rfl) ?_
  refine lv_iload hx hb dL_law_684 (lv_at hl 0 rfl) ?_
  refine lv_iconst (v := 2) hx hb dL_law_686 (by decide) ?_
  refine lv_iadd hx hb dL_law_687 ?_
  refine va_sld hx hb hX hbl hbA hS h2 dL_law_688 ?_
  refine lv_aload_n hx hb dL_law_689 rfl (lv_at hl 2 rfl) ?_
  obtain ⟨N1, rc, N2, rm, e1, e2, hk, ht, hv, hR2⟩ := hE S M (xs (nI i + 1).toNatClampNeg) (xs (nI i + 2).toNatClampNeg) hR
  rw [lwW_1] at hP hD
  refine jSh C dL_law_690 (kh_move l hl0 D G B ks va o1 f1 N1 S (xs (nI i + 1).toNatClampNeg) (xs (nI i + 2).toNatClampNeg) rc e1 hk) hy_move jq_26_5 jq_26_6 ⟨Nat.le_of_ble_eq_true rfl, Nat.le_of_ble_eq_true rfl⟩ ⟨by show cells + 3 ≤ 603072; omega, by show slots + 18 ≤ 7174250; omega⟩ hZ hC (jMidP (pre := wM a G M) (mid := wTS B G S ++ [((o1, .inl (G 3, 1, .inr (.inl f1))) : Nat × va_E)]) (post := [((o2, .inl (G 4, 1, .inr (.inr (.inr (.inl f2))))) : Nat × va_E)]) hP) (jMidD (pre := wM a G M) (mid := wTS B G S ++ [((o1, .inl (G 3, 1, .inr (.inl f1))) : Nat × va_E)]) (post := [((o2, .inl (G 4, 1, .inr (.inr (.inr (.inl f2))))) : Nat × va_E)]) hD) hA hS hl (As := [.ref (B 9 0), .int (xs (nI i + 1).toNatClampNeg), .int (xs (nI i + 2).toNatClampNeg), .ref o1]) (rest := []) rfl (Nat.le_of_ble_eq_true rfl) (fun H1 locs hQ hz hkp hS => ?_)
  have hP := jMidJoin (pre := wM a G M) (mid := wTS B G S ++ [((o1, .inl (G 3, 1, .inr (.inl f1))) : Nat × va_E)]) (mid' := wTS B G rc.2.2 ++ [((o1, .inl (G 3, 1, .inr (.inl (hO rc.1 f1 rc.2.1)))) : Nat × va_E)]) (post := [((o2, .inl (G 4, 1, .inr (.inr (.inr (.inl f2))))) : Nat × va_E)]) hP hD hkp hQ
  have hP : va_P D vwCl (lwW a B G o1 o2 rc.2.2 M (hO rc.1 f1 rc.2.1) f2) H1 := by rw [lwW_1]; exact hP
  have hD : va_D A (lwW a B G o1 o2 rc.2.2 M (hO rc.1 f1 rc.2.1) f2) := lwD hD0
  clear hQ hz hkp
  generalize H1 = H at hP hS ⊢
  refine W.widen (k := cells + 3) (n := slots + 18) (show cells + 3 ≤ cells + 3 by omega) (show slots + 18 ≤ slots + 18 by omega) ?_
  refine lv_istore (lv' := [(6, .int (hk_move rc.1)), (5, .int (nI i)), (4, .ref o2), (3, .ref o1), (2, .ref (a 0)), (1, .ref (B 9 0)), (0, .ref b)]) hx hb dL_law_693 hl (by decide) rfl (fun ls hl => ?_)
  refine lv_aload_n hx hb dL_law_695 rfl (lv_at hl 4 rfl) ?_
  refine lv_aload_n hx hb dL_law_696 rfl (lv_at hl 6 rfl) ?_
  refine lv_iload hx hb dL_law_697 (lv_at hl 1 rfl) ?_
  refine lv_iconst (v := 1) hx hb dL_law_699 (by decide) ?_
  refine lv_iadd hx hb dL_law_700 ?_
  refine va_sld hx hb hX hbl hbA hS h1 dL_law_701 ?_
  refine lv_aload_n hx hb dL_law_702 rfl (lv_at hl 6 rfl) ?_
  refine lv_iload hx hb dL_law_703 (lv_at hl 1 rfl) ?_
  refine lv_iconst (v := 2) hx hb dL_law_705 (by decide) ?_
  refine lv_iadd hx hb dL_law_706 ?_
  refine va_sld hx hb hX hbl hbA hS h2 dL_law_707 ?_
  refine jVmI C dL_law_708 (k_X9_move l D G a N2 M (xs (nI i + 1).toNatClampNeg) (xs (nI i + 2).toNatClampNeg) rm e2) jy_X9_move jq_26_16 jq_26_17 jq_26_18 ⟨rfl, rfl, Nat.le_of_ble_eq_true rfl, Nat.le_of_ble_eq_true rfl⟩ ⟨by show cells + 3 ≤ 603072; omega, by show slots + 18 ≤ 7174250; omega⟩ (jMidP (pre := []) (mid := wM a G M) (post := wTS B G rc.2.2 ++ ([((o1, .inl (G 3, 1, .inr (.inl (hO rc.1 f1 rc.2.1)))) : Nat × va_E)] ++ [((o2, .inl (G 4, 1, .inr (.inr (.inr (.inl f2))))) : Nat × va_E)])) hP) (jMidD (pre := []) (mid := wM a G M) (post := wTS B G rc.2.2 ++ ([((o1, .inl (G 3, 1, .inr (.inl (hO rc.1 f1 rc.2.1)))) : Nat × va_E)] ++ [((o2, .inl (G 4, 1, .inr (.inr (.inr (.inl f2))))) : Nat × va_E)])) hD) hA hS (ci := 11) (iw := 0) rfl rfl rfl hl (As := [.int (xs (nI i + 1).toNatClampNeg), .int (xs (nI i + 2).toNatClampNeg)]) (rest := []) rfl (Nat.le_of_ble_eq_true rfl) (fun H1 locs hQ hz hkp hS => ?_)
  have hP : va_P D vwCl (lwW a B G o1 o2 rc.2.2 rm.2 (hO rc.1 f1 rc.2.1) f2) H1 := jMidJoin (pre := []) (mid := wM a G M) (mid' := wM a G rm.2) (post := wTS B G rc.2.2 ++ ([((o1, .inl (G 3, 1, .inr (.inl (hO rc.1 f1 rc.2.1)))) : Nat × va_E)] ++ [((o2, .inl (G 4, 1, .inr (.inr (.inr (.inl f2))))) : Nat × va_E)])) hP hD hkp hQ
  have hD : va_D A (lwW a B G o1 o2 rc.2.2 rm.2 (hO rc.1 f1 rc.2.1) f2) := lwD hD0
  clear hQ hz hkp
  generalize H1 = H at hP hS ⊢
  refine lv_istore (lv' := [(7, .int rm.1), (6, .int (hk_move rc.1)), (5, .int (nI i)), (4, .ref o2), (3, .ref o1), (2, .ref (a 0)), (1, .ref (B 9 0)), (0, .ref b)]) hx hb dL_law_711 hl (by decide) rfl (fun ls hl => ?_)
  refine lv_aload_n hx hb dL_law_713 rfl (lv_at hl 5 rfl) ?_
  refine jVpI C dL_law_714 (k_X9_thrown l D G a N2 rm.2 (rm.2 0 0) rfl) jy_X9_thrown jq_15_8 jq_15_9 jq_15_10 ⟨rfl, rfl, Nat.le_of_ble_eq_true rfl, Nat.le_of_ble_eq_true rfl⟩ ⟨by show cells + 3 ≤ 603072; omega, by show slots + 18 ≤ 7174250; omega⟩ (jMidP (pre := []) (mid := wM a G rm.2) (post := wTS B G rc.2.2 ++ ([((o1, .inl (G 3, 1, .inr (.inl (hO rc.1 f1 rc.2.1)))) : Nat × va_E)] ++ [((o2, .inl (G 4, 1, .inr (.inr (.inr (.inl f2))))) : Nat × va_E)])) hP) (ci := 11) (iw := 0) rfl rfl rfl hl (As := []) (rest := []) rfl (Nat.le_of_ble_eq_true rfl) ?_
  refine lv_iload hx hb dL_law_717 (lv_at hl 1 rfl) ?_
  refine lv_icmp_eq (tgt := 724) hx hb dL_law_719 (by decide) (fun _ => ?_) (fun h => absurd ht h)
  refine lv_iload hx hb dL_law_724 (lv_at hl 1 rfl) ?_
  refine lv_if_ne (tgt := 741) hx hb dL_law_726 (by decide) (fun _ => ?_) (fun hz0 => ?_)
  · refine lv_goto (tgt := 2403) hx hb dL_law_741 (by decide) ?_
    exact kk rc.2.2 rm.2 (hO rc.1 f1 rc.2.1) f2 ls H locs hR2 hP hD hS (lv_sub hl [2, 3, 4, 5, 6, 7] rfl)
  · have hk0 : rc.1 = 0 := by
      rcases hk with hk | hk | hk | hk
      · exact hk
      · rw [hk] at hz0; exact absurd hz0 (by decide)
      · rw [hk] at hz0; exact absurd hz0 (by decide)
      · rw [hk] at hz0; exact absurd hz0 (by decide)
    refine lv_aload_n hx hb dL_law_729 rfl (lv_at hl 4 rfl) ?_
    refine lv_iconst (v := 0) hx hb dL_law_730 (by decide) ?_
    rw [lwW_1] at hP
    refine va_lald (n := 1) hx hb hK hP ((wM a G rm.2).length + (wTS B G rc.2.2).length) 3 (jAt1 _ _ _ _) rfl (inb_of (by decide)) dL_law_731 ?_
    rw [← lwW_1] at hP
    refine lv_iload hx hb dL_law_732 (lv_at hl 0 rfl) ?_
    refine lv_i2l hx hb dL_law_734 rfl ?_
    refine W.lcmp hx hb dL_law_735 ?_
    have hzz : lg_cmp ((hO rc.1 f1 rc.2.1) (0 : Int32).toNatClampNeg) rm.1.toInt64 = 0 := lgc (by unfold hO; rw [if_pos hk0, hv hk0]; rfl)
    refine lv_if_eq (tgt := 741) hx hb dL_law_736 (by decide) (fun _ => ?_) (fun h => absurd hzz h)
    refine lv_goto (tgt := 2403) hx hb dL_law_741 (by decide) ?_
    exact kk rc.2.2 rm.2 (hO rc.1 f1 rc.2.1) f2 ls H locs hR2 hP hD hS (lv_sub hl [2, 3, 4, 5, 6, 7] rfl)
def jE_performance (Rl : (Nat → Nat → Nat → Int32) → (Nat → Nat → Int32) → Prop) : Prop := ∀ (S : Nat → Nat → Nat → Int32) (M : Nat → Nat → Int32) (v1 v2 : Int32), Rl S M → ∃ (N1 : Nat) (rc : _) (N2 : Nat) (rm : _), F_X8_performance N1 S v1 v2 = some rc ∧ F_X9_performance N2 M v1 v2 = some rm ∧ (rc.1 = 0 ∨ rc.1 = 1 ∨ rc.1 = 2) ∧ rm.2 0 0 = hk_performance rc.1 ∧ (rc.1 = 0 → rc.2.1 = rm.1) ∧ Rl rc.2.2 rm.2
theorem hy_performance : hY yL_performance cL_performance 5 [(0, 10, 13, 13), (0, 10, 17, 15)] 4 := ⟨by decide +kernel, jq_27_2, jq_6_7⟩
set_option maxHeartbeats 4000000 in
set_option maxRecDepth 100000 in
theorem lc_performance {p : Program} {l : Launch} {e : Env} {s : State} {m : MethodId} {args : Array Value} {below : List Frame} {meth : Method} {c : Code} {Q : State → Prop} {D : va_G} {G : Nat → ClassId} {A : Nat → Prop} {ks va : Nat → Nat} {b L i : Nat} {xs : Nat → Int32} {a : Nat → Nat} {B : Nat → Nat → Nat} {o1 o2 : Nat} {Rl : (Nat → Nat → Nat → Int32) → (Nat → Nat → Int32) → Prop} {ret : Option FieldType}
    (C : Cx p s m args meth c cL_law 9 RL ret D G) (hl0 : l.stackTraces = false) (hZ : jZ ks va A s s.heap) (hC : jC s) (hA : ∀ q : Nat, s.heap.size ≤ q → A q) (hX : va_X b L xs s s.heap) (hbl : b < s.heap.size) (hbA : ¬ A b) (h0 : vp_in (nI i) L) (h1 : vp_in (nI i + 1) L) (h2 : vp_in (nI i + 2) L) (h3 : vp_in (nI i + 3) L) (h4 : vp_in (nI i + 4) L) (hE : jE_performance Rl) : ∀ (S : Nat → Nat → Nat → Int32) (M : Nat → Nat → Int32) (f1 : Nat → Int64) (f2 : Nat → UInt64) (ls : Array Slot) (H : Heap) (locs : List Loc) (cells slots : Nat), cells + 3 ≤ 603072 → slots + 18 ≤ 7174250 → Rl S M → va_P D vwCl (lwW a B G o1 o2 S M f1 f2) H → va_D A (lwW a B G o1 o2 S M f1 f2) → va_S A s.heap H locs → lv_has ls 9 [(5, .int (nI i)), (4, .ref o2), (3, .ref o1), (2, .ref (a 0)), (1, .ref (B 9 0)), (0, .ref b)] → (∀ (S : Nat → Nat → Nat → Int32) (M : Nat → Nat → Int32) (f1 : Nat → Int64) (f2 : Nat → UInt64) (ls : Array Slot) (H : Heap) (locs : List Loc), Rl S M → va_P D vwCl (lwW a B G o1 o2 S M f1 f2) H → va_D A (lwW a B G o1 o2 S M f1 f2) → va_S A s.heap H locs → lv_has ls 9 [(5, .int (nI i)), (4, .ref o2), (3, .ref o1), (2, .ref (a 0)), (1, .ref (B 9 0)), (0, .ref b)] → W p l e room_1 s m args below meth c H locs (cells + 3) (slots + 18) Q (F0 m 2403 ls [])) → W p l e room_1 s m args below meth c H locs cells slots Q (F0 m 744 ls []) := by
  intro S M f1 f2 ls H locs cells slots hcc hcs hR hP hD hS hl kk
  have hD0 := hD
  obtain ⟨hx, hb, hr, hml, hts, hown, hlocks, hK0⟩ := id C
  have hK := hK0.1
  refine lv_aload_n hx hb dL_law_744 rfl (lv_at hl 4 rfl) ?_
  refine lv_aload_n hx hb dL_law_745 rfl (lv_at hl 5 rfl) ?_
  refine lv_iload hx hb dL_law_746 (lv_at hl 0 rfl) ?_
  refine lv_iconst (v := 1) hx hb dL_law_748 (by decide) ?_
  refine lv_iadd hx hb dL_law_749 ?_
  refine va_sld hx hb hX hbl hbA hS h1 dL_law_750 ?_
  refine lv_aload_n hx hb dL_law_751 rfl (lv_at hl 5 rfl) ?_
  refine lv_iload hx hb dL_law_752 (lv_at hl 0 rfl) ?_
  refine lv_iconst (v := 2) hx hb dL_law_754 (by decide) ?_
  refine lv_iadd hx hb dL_law_755 ?_
  refine va_sld hx hb hX hbl hbA hS h2 dL_law_756 ?_
  refine lv_aload_n hx hb dL_law_757 rfl (lv_at hl 2 rfl) ?_
  obtain ⟨N1, rc, N2, rm, e1, e2, hk, ht, hv, hR2⟩ := hE S M (xs (nI i + 1).toNatClampNeg) (xs (nI i + 2).toNatClampNeg) hR
  rw [lwW_1] at hP hD
  refine jSh C dL_law_758 (kh_performance l hl0 D G B ks va o1 f1 N1 S (xs (nI i + 1).toNatClampNeg) (xs (nI i + 2).toNatClampNeg) rc e1 hk) hy_performance jq_27_0 jq_27_1 ⟨Nat.le_of_ble_eq_true rfl, Nat.le_of_ble_eq_true rfl⟩ ⟨by show cells + 2 ≤ 603072; omega, by show slots + 12 ≤ 7174250; omega⟩ hZ hC (jMidP (pre := wM a G M) (mid := wTS B G S ++ [((o1, .inl (G 3, 1, .inr (.inl f1))) : Nat × va_E)]) (post := [((o2, .inl (G 4, 1, .inr (.inr (.inr (.inl f2))))) : Nat × va_E)]) hP) (jMidD (pre := wM a G M) (mid := wTS B G S ++ [((o1, .inl (G 3, 1, .inr (.inl f1))) : Nat × va_E)]) (post := [((o2, .inl (G 4, 1, .inr (.inr (.inr (.inl f2))))) : Nat × va_E)]) hD) hA hS hl (As := [.ref (B 9 0), .int (xs (nI i + 1).toNatClampNeg), .int (xs (nI i + 2).toNatClampNeg), .ref o1]) (rest := []) rfl (Nat.le_of_ble_eq_true rfl) (fun H1 locs hQ hz hkp hS => ?_)
  have hP := jMidJoin (pre := wM a G M) (mid := wTS B G S ++ [((o1, .inl (G 3, 1, .inr (.inl f1))) : Nat × va_E)]) (mid' := wTS B G rc.2.2 ++ [((o1, .inl (G 3, 1, .inr (.inl (hO rc.1 f1 rc.2.1)))) : Nat × va_E)]) (post := [((o2, .inl (G 4, 1, .inr (.inr (.inr (.inl f2))))) : Nat × va_E)]) hP hD hkp hQ
  have hP : va_P D vwCl (lwW a B G o1 o2 rc.2.2 M (hO rc.1 f1 rc.2.1) f2) H1 := by rw [lwW_1]; exact hP
  have hD : va_D A (lwW a B G o1 o2 rc.2.2 M (hO rc.1 f1 rc.2.1) f2) := lwD hD0
  clear hQ hz hkp
  generalize H1 = H at hP hS ⊢
  refine W.widen (k := cells + 3) (n := slots + 18) (show cells + 2 ≤ cells + 3 by omega) (show slots + 12 ≤ slots + 18 by omega) ?_
  refine lv_istore (lv' := [(6, .int (hk_performance rc.1)), (5, .int (nI i)), (4, .ref o2), (3, .ref o1), (2, .ref (a 0)), (1, .ref (B 9 0)), (0, .ref b)]) hx hb dL_law_761 hl (by decide) rfl (fun ls hl => ?_)
  refine lv_aload_n hx hb dL_law_763 rfl (lv_at hl 4 rfl) ?_
  refine lv_aload_n hx hb dL_law_764 rfl (lv_at hl 6 rfl) ?_
  refine lv_iload hx hb dL_law_765 (lv_at hl 1 rfl) ?_
  refine lv_iconst (v := 1) hx hb dL_law_767 (by decide) ?_
  refine lv_iadd hx hb dL_law_768 ?_
  refine va_sld hx hb hX hbl hbA hS h1 dL_law_769 ?_
  refine lv_aload_n hx hb dL_law_770 rfl (lv_at hl 6 rfl) ?_
  refine lv_iload hx hb dL_law_771 (lv_at hl 1 rfl) ?_
  refine lv_iconst (v := 2) hx hb dL_law_773 (by decide) ?_
  refine lv_iadd hx hb dL_law_774 ?_
  refine va_sld hx hb hX hbl hbA hS h2 dL_law_775 ?_
  refine jVmI C dL_law_776 (k_X9_performance l D G a N2 M (xs (nI i + 1).toNatClampNeg) (xs (nI i + 2).toNatClampNeg) rm e2) jy_X9_performance jq_27_13 jq_27_14 jq_27_15 ⟨rfl, rfl, Nat.le_of_ble_eq_true rfl, Nat.le_of_ble_eq_true rfl⟩ ⟨by show cells + 3 ≤ 603072; omega, by show slots + 18 ≤ 7174250; omega⟩ (jMidP (pre := []) (mid := wM a G M) (post := wTS B G rc.2.2 ++ ([((o1, .inl (G 3, 1, .inr (.inl (hO rc.1 f1 rc.2.1)))) : Nat × va_E)] ++ [((o2, .inl (G 4, 1, .inr (.inr (.inr (.inl f2))))) : Nat × va_E)])) hP) (jMidD (pre := []) (mid := wM a G M) (post := wTS B G rc.2.2 ++ ([((o1, .inl (G 3, 1, .inr (.inl (hO rc.1 f1 rc.2.1)))) : Nat × va_E)] ++ [((o2, .inl (G 4, 1, .inr (.inr (.inr (.inl f2))))) : Nat × va_E)])) hD) hA hS (ci := 11) (iw := 0) rfl rfl rfl hl (As := [.int (xs (nI i + 1).toNatClampNeg), .int (xs (nI i + 2).toNatClampNeg)]) (rest := []) rfl (Nat.le_of_ble_eq_true rfl) (fun H1 locs hQ hz hkp hS => ?_)
  have hP : va_P D vwCl (lwW a B G o1 o2 rc.2.2 rm.2 (hO rc.1 f1 rc.2.1) f2) H1 := jMidJoin (pre := []) (mid := wM a G M) (mid' := wM a G rm.2) (post := wTS B G rc.2.2 ++ ([((o1, .inl (G 3, 1, .inr (.inl (hO rc.1 f1 rc.2.1)))) : Nat × va_E)] ++ [((o2, .inl (G 4, 1, .inr (.inr (.inr (.inl f2))))) : Nat × va_E)])) hP hD hkp hQ
  have hD : va_D A (lwW a B G o1 o2 rc.2.2 rm.2 (hO rc.1 f1 rc.2.1) f2) := lwD hD0
  clear hQ hz hkp
  generalize H1 = H at hP hS ⊢
  refine lv_istore (lv' := [(7, .int rm.1), (6, .int (hk_performance rc.1)), (5, .int (nI i)), (4, .ref o2), (3, .ref o1), (2, .ref (a 0)), (1, .ref (B 9 0)), (0, .ref b)]) hx hb dL_law_779 hl (by decide) rfl (fun ls hl => ?_)
  refine lv_aload_n hx hb dL_law_781 rfl (lv_at hl 5 rfl) ?_
  refine jVpI C dL_law_782 (k_X9_thrown l D G a N2 rm.2 (rm.2 0 0) rfl) jy_X9_thrown jq_15_8 jq_15_9 jq_15_10 ⟨rfl, rfl, Nat.le_of_ble_eq_true rfl, Nat.le_of_ble_eq_true rfl⟩ ⟨by show cells + 3 ≤ 603072; omega, by show slots + 18 ≤ 7174250; omega⟩ (jMidP (pre := []) (mid := wM a G rm.2) (post := wTS B G rc.2.2 ++ ([((o1, .inl (G 3, 1, .inr (.inl (hO rc.1 f1 rc.2.1)))) : Nat × va_E)] ++ [((o2, .inl (G 4, 1, .inr (.inr (.inr (.inl f2))))) : Nat × va_E)])) hP) (ci := 11) (iw := 0) rfl rfl rfl hl (As := []) (rest := []) rfl (Nat.le_of_ble_eq_true rfl) ?_
  refine lv_iload hx hb dL_law_785 (lv_at hl 1 rfl) ?_
  refine lv_icmp_eq (tgt := 792) hx hb dL_law_787 (by decide) (fun _ => ?_) (fun h => absurd ht h)
  refine lv_iload hx hb dL_law_792 (lv_at hl 1 rfl) ?_
  refine lv_if_ne (tgt := 809) hx hb dL_law_794 (by decide) (fun _ => ?_) (fun hz0 => ?_)
  · refine lv_goto (tgt := 2403) hx hb dL_law_809 (by decide) ?_
    exact kk rc.2.2 rm.2 (hO rc.1 f1 rc.2.1) f2 ls H locs hR2 hP hD hS (lv_sub hl [2, 3, 4, 5, 6, 7] rfl)
  · have hk0 : rc.1 = 0 := by
      rcases hk with hk | hk | hk
      · exact hk
      · rw [hk] at hz0; exact absurd hz0 (by decide)
      · rw [hk] at hz0; exact absurd hz0 (by decide)
    refine lv_aload_n hx hb dL_law_797 rfl (lv_at hl 4 rfl) ?_
    refine lv_iconst (v := 0) hx hb dL_law_798 (by decide) ?_
    rw [lwW_1] at hP
    refine va_lald (n := 1) hx hb hK hP ((wM a G rm.2).length + (wTS B G rc.2.2).length) 3 (jAt1 _ _ _ _) rfl (inb_of (by decide)) dL_law_799 ?_
    rw [← lwW_1] at hP
    refine lv_iload hx hb dL_law_800 (lv_at hl 0 rfl) ?_
    refine lv_i2l hx hb dL_law_802 rfl ?_
    refine W.lcmp hx hb dL_law_803 ?_
    have hzz : lg_cmp ((hO rc.1 f1 rc.2.1) (0 : Int32).toNatClampNeg) rm.1.toInt64 = 0 := lgc (by unfold hO; rw [if_pos hk0, hv hk0]; rfl)
    refine lv_if_eq (tgt := 809) hx hb dL_law_804 (by decide) (fun _ => ?_) (fun h => absurd hzz h)
    refine lv_goto (tgt := 2403) hx hb dL_law_809 (by decide) ?_
    exact kk rc.2.2 rm.2 (hO rc.1 f1 rc.2.1) f2 ls H locs hR2 hP hD hS (lv_sub hl [2, 3, 4, 5, 6, 7] rfl)
def jE_on (Rl : (Nat → Nat → Nat → Int32) → (Nat → Nat → Int32) → Prop) : Prop := ∀ (S : Nat → Nat → Nat → Int32) (M : Nat → Nat → Int32) (v1 v2 : Int32), Rl S M → ∃ (N1 : Nat) (rc : _) (N2 : Nat) (rm : _), F_X8_on N1 S v1 v2 = some rc ∧ F_X9_on N2 M v1 v2 = some rm ∧ (rc.1 = 0 ∨ rc.1 = 1 ∨ rc.1 = 2 ∨ rc.1 = 5) ∧ rm.2 0 0 = hk_on rc.1 ∧ (rc.1 = 0 → rc.2.1 = rm.1) ∧ Rl rc.2.2 rm.2
theorem hy_on : hY yL_on cL_on 5 [(0, 10, 13, 13), (0, 10, 17, 15), (0, 10, 21, 51)] 4 := ⟨by decide +kernel, jq_28_3, jq_6_7⟩
set_option maxHeartbeats 4000000 in
set_option maxRecDepth 100000 in
theorem lc_on {p : Program} {l : Launch} {e : Env} {s : State} {m : MethodId} {args : Array Value} {below : List Frame} {meth : Method} {c : Code} {Q : State → Prop} {D : va_G} {G : Nat → ClassId} {A : Nat → Prop} {ks va : Nat → Nat} {b L i : Nat} {xs : Nat → Int32} {a : Nat → Nat} {B : Nat → Nat → Nat} {o1 o2 : Nat} {Rl : (Nat → Nat → Nat → Int32) → (Nat → Nat → Int32) → Prop} {ret : Option FieldType}
    (C : Cx p s m args meth c cL_law 9 RL ret D G) (hl0 : l.stackTraces = false) (hZ : jZ ks va A s s.heap) (hC : jC s) (hA : ∀ q : Nat, s.heap.size ≤ q → A q) (hX : va_X b L xs s s.heap) (hbl : b < s.heap.size) (hbA : ¬ A b) (h0 : vp_in (nI i) L) (h1 : vp_in (nI i + 1) L) (h2 : vp_in (nI i + 2) L) (h3 : vp_in (nI i + 3) L) (h4 : vp_in (nI i + 4) L) (hE : jE_on Rl) : ∀ (S : Nat → Nat → Nat → Int32) (M : Nat → Nat → Int32) (f1 : Nat → Int64) (f2 : Nat → UInt64) (ls : Array Slot) (H : Heap) (locs : List Loc) (cells slots : Nat), cells + 3 ≤ 603072 → slots + 18 ≤ 7174250 → Rl S M → va_P D vwCl (lwW a B G o1 o2 S M f1 f2) H → va_D A (lwW a B G o1 o2 S M f1 f2) → va_S A s.heap H locs → lv_has ls 9 [(5, .int (nI i)), (4, .ref o2), (3, .ref o1), (2, .ref (a 0)), (1, .ref (B 9 0)), (0, .ref b)] → (∀ (S : Nat → Nat → Nat → Int32) (M : Nat → Nat → Int32) (f1 : Nat → Int64) (f2 : Nat → UInt64) (ls : Array Slot) (H : Heap) (locs : List Loc), Rl S M → va_P D vwCl (lwW a B G o1 o2 S M f1 f2) H → va_D A (lwW a B G o1 o2 S M f1 f2) → va_S A s.heap H locs → lv_has ls 9 [(5, .int (nI i)), (4, .ref o2), (3, .ref o1), (2, .ref (a 0)), (1, .ref (B 9 0)), (0, .ref b)] → W p l e room_1 s m args below meth c H locs (cells + 3) (slots + 18) Q (F0 m 2403 ls [])) → W p l e room_1 s m args below meth c H locs cells slots Q (F0 m 812 ls []) := by
  intro S M f1 f2 ls H locs cells slots hcc hcs hR hP hD hS hl kk
  have hD0 := hD
  obtain ⟨hx, hb, hr, hml, hts, hown, hlocks, hK0⟩ := id C
  have hK := hK0.1
  refine lv_aload_n hx hb dL_law_812 rfl (lv_at hl 4 rfl) ?_
  refine lv_aload_n hx hb dL_law_813 rfl (lv_at hl 5 rfl) ?_
  refine lv_iload hx hb dL_law_814 (lv_at hl 0 rfl) ?_
  refine lv_iconst (v := 1) hx hb dL_law_816 (by decide) ?_
  refine lv_iadd hx hb dL_law_817 ?_
  refine va_sld hx hb hX hbl hbA hS h1 dL_law_818 ?_
  refine lv_aload_n hx hb dL_law_819 rfl (lv_at hl 5 rfl) ?_
  refine lv_iload hx hb dL_law_820 (lv_at hl 0 rfl) ?_
  refine lv_iconst (v := 2) hx hb dL_law_822 (by decide) ?_
  refine lv_iadd hx hb dL_law_823 ?_
  refine va_sld hx hb hX hbl hbA hS h2 dL_law_824 ?_
  refine lv_aload_n hx hb dL_law_825 rfl (lv_at hl 2 rfl) ?_
  obtain ⟨N1, rc, N2, rm, e1, e2, hk, ht, hv, hR2⟩ := hE S M (xs (nI i + 1).toNatClampNeg) (xs (nI i + 2).toNatClampNeg) hR
  rw [lwW_1] at hP hD
  refine jSh C dL_law_826 (kh_on l hl0 D G B ks va o1 f1 N1 S (xs (nI i + 1).toNatClampNeg) (xs (nI i + 2).toNatClampNeg) rc e1 hk) hy_on jq_28_1 jq_28_2 ⟨Nat.le_of_ble_eq_true rfl, Nat.le_of_ble_eq_true rfl⟩ ⟨by show cells + 3 ≤ 603072; omega, by show slots + 18 ≤ 7174250; omega⟩ hZ hC (jMidP (pre := wM a G M) (mid := wTS B G S ++ [((o1, .inl (G 3, 1, .inr (.inl f1))) : Nat × va_E)]) (post := [((o2, .inl (G 4, 1, .inr (.inr (.inr (.inl f2))))) : Nat × va_E)]) hP) (jMidD (pre := wM a G M) (mid := wTS B G S ++ [((o1, .inl (G 3, 1, .inr (.inl f1))) : Nat × va_E)]) (post := [((o2, .inl (G 4, 1, .inr (.inr (.inr (.inl f2))))) : Nat × va_E)]) hD) hA hS hl (As := [.ref (B 9 0), .int (xs (nI i + 1).toNatClampNeg), .int (xs (nI i + 2).toNatClampNeg), .ref o1]) (rest := []) rfl (Nat.le_of_ble_eq_true rfl) (fun H1 locs hQ hz hkp hS => ?_)
  have hP := jMidJoin (pre := wM a G M) (mid := wTS B G S ++ [((o1, .inl (G 3, 1, .inr (.inl f1))) : Nat × va_E)]) (mid' := wTS B G rc.2.2 ++ [((o1, .inl (G 3, 1, .inr (.inl (hO rc.1 f1 rc.2.1)))) : Nat × va_E)]) (post := [((o2, .inl (G 4, 1, .inr (.inr (.inr (.inl f2))))) : Nat × va_E)]) hP hD hkp hQ
  have hP : va_P D vwCl (lwW a B G o1 o2 rc.2.2 M (hO rc.1 f1 rc.2.1) f2) H1 := by rw [lwW_1]; exact hP
  have hD : va_D A (lwW a B G o1 o2 rc.2.2 M (hO rc.1 f1 rc.2.1) f2) := lwD hD0
  clear hQ hz hkp
  generalize H1 = H at hP hS ⊢
  refine W.widen (k := cells + 3) (n := slots + 18) (show cells + 3 ≤ cells + 3 by omega) (show slots + 18 ≤ slots + 18 by omega) ?_
  refine lv_istore (lv' := [(6, .int (hk_on rc.1)), (5, .int (nI i)), (4, .ref o2), (3, .ref o1), (2, .ref (a 0)), (1, .ref (B 9 0)), (0, .ref b)]) hx hb dL_law_829 hl (by decide) rfl (fun ls hl => ?_)
  refine lv_aload_n hx hb dL_law_831 rfl (lv_at hl 4 rfl) ?_
  refine lv_aload_n hx hb dL_law_832 rfl (lv_at hl 6 rfl) ?_
  refine lv_iload hx hb dL_law_833 (lv_at hl 1 rfl) ?_
  refine lv_iconst (v := 1) hx hb dL_law_835 (by decide) ?_
  refine lv_iadd hx hb dL_law_836 ?_
  refine va_sld hx hb hX hbl hbA hS h1 dL_law_837 ?_
  refine lv_aload_n hx hb dL_law_838 rfl (lv_at hl 6 rfl) ?_
  refine lv_iload hx hb dL_law_839 (lv_at hl 1 rfl) ?_
  refine lv_iconst (v := 2) hx hb dL_law_841 (by decide) ?_
  refine lv_iadd hx hb dL_law_842 ?_
  refine va_sld hx hb hX hbl hbA hS h2 dL_law_843 ?_
  refine jVmI C dL_law_844 (k_X9_on l D G a N2 M (xs (nI i + 1).toNatClampNeg) (xs (nI i + 2).toNatClampNeg) rm e2) jy_X9_on jq_28_17 jq_28_18 jq_28_19 ⟨rfl, rfl, Nat.le_of_ble_eq_true rfl, Nat.le_of_ble_eq_true rfl⟩ ⟨by show cells + 3 ≤ 603072; omega, by show slots + 18 ≤ 7174250; omega⟩ (jMidP (pre := []) (mid := wM a G M) (post := wTS B G rc.2.2 ++ ([((o1, .inl (G 3, 1, .inr (.inl (hO rc.1 f1 rc.2.1)))) : Nat × va_E)] ++ [((o2, .inl (G 4, 1, .inr (.inr (.inr (.inl f2))))) : Nat × va_E)])) hP) (jMidD (pre := []) (mid := wM a G M) (post := wTS B G rc.2.2 ++ ([((o1, .inl (G 3, 1, .inr (.inl (hO rc.1 f1 rc.2.1)))) : Nat × va_E)] ++ [((o2, .inl (G 4, 1, .inr (.inr (.inr (.inl f2))))) : Nat × va_E)])) hD) hA hS (ci := 11) (iw := 0) rfl rfl rfl hl (As := [.int (xs (nI i + 1).toNatClampNeg), .int (xs (nI i + 2).toNatClampNeg)]) (rest := []) rfl (Nat.le_of_ble_eq_true rfl) (fun H1 locs hQ hz hkp hS => ?_)
  have hP : va_P D vwCl (lwW a B G o1 o2 rc.2.2 rm.2 (hO rc.1 f1 rc.2.1) f2) H1 := jMidJoin (pre := []) (mid := wM a G M) (mid' := wM a G rm.2) (post := wTS B G rc.2.2 ++ ([((o1, .inl (G 3, 1, .inr (.inl (hO rc.1 f1 rc.2.1)))) : Nat × va_E)] ++ [((o2, .inl (G 4, 1, .inr (.inr (.inr (.inl f2))))) : Nat × va_E)])) hP hD hkp hQ
  have hD : va_D A (lwW a B G o1 o2 rc.2.2 rm.2 (hO rc.1 f1 rc.2.1) f2) := lwD hD0
  clear hQ hz hkp
  generalize H1 = H at hP hS ⊢
  refine lv_istore (lv' := [(7, .int rm.1), (6, .int (hk_on rc.1)), (5, .int (nI i)), (4, .ref o2), (3, .ref o1), (2, .ref (a 0)), (1, .ref (B 9 0)), (0, .ref b)]) hx hb dL_law_847 hl (by decide) rfl (fun ls hl => ?_)
  refine lv_aload_n hx hb dL_law_849 rfl (lv_at hl 5 rfl) ?_
  refine jVpI C dL_law_850 (k_X9_thrown l D G a N2 rm.2 (rm.2 0 0) rfl) jy_X9_thrown jq_15_8 jq_15_9 jq_15_10 ⟨rfl, rfl, Nat.le_of_ble_eq_true rfl, Nat.le_of_ble_eq_true rfl⟩ ⟨by show cells + 3 ≤ 603072; omega, by show slots + 18 ≤ 7174250; omega⟩ (jMidP (pre := []) (mid := wM a G rm.2) (post := wTS B G rc.2.2 ++ ([((o1, .inl (G 3, 1, .inr (.inl (hO rc.1 f1 rc.2.1)))) : Nat × va_E)] ++ [((o2, .inl (G 4, 1, .inr (.inr (.inr (.inl f2))))) : Nat × va_E)])) hP) (ci := 11) (iw := 0) rfl rfl rfl hl (As := []) (rest := []) rfl (Nat.le_of_ble_eq_true rfl) ?_
  refine lv_iload hx hb dL_law_853 (lv_at hl 1 rfl) ?_
  refine lv_icmp_eq (tgt := 860) hx hb dL_law_855 (by decide) (fun _ => ?_) (fun h => absurd ht h)
  refine lv_iload hx hb dL_law_860 (lv_at hl 1 rfl) ?_
  refine lv_if_ne (tgt := 877) hx hb dL_law_862 (by decide) (fun _ => ?_) (fun hz0 => ?_)
  · refine lv_goto (tgt := 2403) hx hb dL_law_877 (by decide) ?_
    exact kk rc.2.2 rm.2 (hO rc.1 f1 rc.2.1) f2 ls H locs hR2 hP hD hS (lv_sub hl [2, 3, 4, 5, 6, 7] rfl)
  · have hk0 : rc.1 = 0 := by
      rcases hk with hk | hk | hk | hk
      · exact hk
      · rw [hk] at hz0; exact absurd hz0 (by decide)
      · rw [hk] at hz0; exact absurd hz0 (by decide)
      · rw [hk] at hz0; exact absurd hz0 (by decide)
    refine lv_aload_n hx hb dL_law_865 rfl (lv_at hl 4 rfl) ?_
    refine lv_iconst (v := 0) hx hb dL_law_866 (by decide) ?_
    rw [lwW_1] at hP
    refine va_lald (n := 1) hx hb hK hP ((wM a G rm.2).length + (wTS B G rc.2.2).length) 3 (jAt1 _ _ _ _) rfl (inb_of (by decide)) dL_law_867 ?_
    rw [← lwW_1] at hP
    refine lv_iload hx hb dL_law_868 (lv_at hl 0 rfl) ?_
    refine lv_i2l hx hb dL_law_870 rfl ?_
    refine W.lcmp hx hb dL_law_871 ?_
    have hzz : lg_cmp ((hO rc.1 f1 rc.2.1) (0 : Int32).toNatClampNeg) rm.1.toInt64 = 0 := lgc (by unfold hO; rw [if_pos hk0, hv hk0]; rfl)
    refine lv_if_eq (tgt := 877) hx hb dL_law_872 (by decide) (fun _ => ?_) (fun h => absurd hzz h)
    refine lv_goto (tgt := 2403) hx hb dL_law_877 (by decide) ?_
    exact kk rc.2.2 rm.2 (hO rc.1 f1 rc.2.1) f2 ls H locs hR2 hP hD hS (lv_sub hl [2, 3, 4, 5, 6, 7] rfl)
def jE_nextDate (Rl : (Nat → Nat → Nat → Int32) → (Nat → Nat → Int32) → Prop) : Prop := ∀ (S : Nat → Nat → Nat → Int32) (M : Nat → Nat → Int32) (v1 v2 v3 : Int32), Rl S M → ∃ (N1 : Nat) (rc : _) (N2 : Nat) (rm : _), F_X8_nextDate N1 S v1 v2 v3 = some rc ∧ F_X9_nextDate N2 M v1 v2 v3 = some rm ∧ (rc.1 = 0 ∨ rc.1 = 1 ∨ rc.1 = 2 ∨ rc.1 = 5) ∧ rm.2 0 0 = hk_nextDate rc.1 ∧ (rc.1 = 0 → rc.2.1 = rm.1) ∧ Rl rc.2.2 rm.2
theorem hy_nextDate : hY yL_nextDate cL_nextDate 6 [(0, 12, 15, 13), (0, 12, 19, 15), (0, 12, 23, 51)] 5 := ⟨by decide +kernel, jq_28_23, jq_6_7⟩
set_option maxHeartbeats 4000000 in
set_option maxRecDepth 100000 in
theorem lc_nextDate {p : Program} {l : Launch} {e : Env} {s : State} {m : MethodId} {args : Array Value} {below : List Frame} {meth : Method} {c : Code} {Q : State → Prop} {D : va_G} {G : Nat → ClassId} {A : Nat → Prop} {ks va : Nat → Nat} {b L i : Nat} {xs : Nat → Int32} {a : Nat → Nat} {B : Nat → Nat → Nat} {o1 o2 : Nat} {Rl : (Nat → Nat → Nat → Int32) → (Nat → Nat → Int32) → Prop} {ret : Option FieldType}
    (C : Cx p s m args meth c cL_law 9 RL ret D G) (hl0 : l.stackTraces = false) (hZ : jZ ks va A s s.heap) (hC : jC s) (hA : ∀ q : Nat, s.heap.size ≤ q → A q) (hX : va_X b L xs s s.heap) (hbl : b < s.heap.size) (hbA : ¬ A b) (h0 : vp_in (nI i) L) (h1 : vp_in (nI i + 1) L) (h2 : vp_in (nI i + 2) L) (h3 : vp_in (nI i + 3) L) (h4 : vp_in (nI i + 4) L) (hE : jE_nextDate Rl) : ∀ (S : Nat → Nat → Nat → Int32) (M : Nat → Nat → Int32) (f1 : Nat → Int64) (f2 : Nat → UInt64) (ls : Array Slot) (H : Heap) (locs : List Loc) (cells slots : Nat), cells + 3 ≤ 603072 → slots + 18 ≤ 7174250 → Rl S M → va_P D vwCl (lwW a B G o1 o2 S M f1 f2) H → va_D A (lwW a B G o1 o2 S M f1 f2) → va_S A s.heap H locs → lv_has ls 9 [(5, .int (nI i)), (4, .ref o2), (3, .ref o1), (2, .ref (a 0)), (1, .ref (B 9 0)), (0, .ref b)] → (∀ (S : Nat → Nat → Nat → Int32) (M : Nat → Nat → Int32) (f1 : Nat → Int64) (f2 : Nat → UInt64) (ls : Array Slot) (H : Heap) (locs : List Loc), Rl S M → va_P D vwCl (lwW a B G o1 o2 S M f1 f2) H → va_D A (lwW a B G o1 o2 S M f1 f2) → va_S A s.heap H locs → lv_has ls 9 [(5, .int (nI i)), (4, .ref o2), (3, .ref o1), (2, .ref (a 0)), (1, .ref (B 9 0)), (0, .ref b)] → W p l e room_1 s m args below meth c H locs (cells + 3) (slots + 18) Q (F0 m 2403 ls [])) → W p l e room_1 s m args below meth c H locs cells slots Q (F0 m 880 ls []) := by
  intro S M f1 f2 ls H locs cells slots hcc hcs hR hP hD hS hl kk
  have hD0 := hD
  obtain ⟨hx, hb, hr, hml, hts, hown, hlocks, hK0⟩ := id C
  have hK := hK0.1
  refine lv_aload_n hx hb dL_law_880 rfl (lv_at hl 4 rfl) ?_
  refine lv_aload_n hx hb dL_law_881 rfl (lv_at hl 5 rfl) ?_
  refine lv_iload hx hb dL_law_882 (lv_at hl 0 rfl) ?_
  refine lv_iconst (v := 1) hx hb dL_law_884 (by decide) ?_
  refine lv_iadd hx hb dL_law_885 ?_
  refine va_sld hx hb hX hbl hbA hS h1 dL_law_886 ?_
  refine lv_aload_n hx hb dL_law_887 rfl (lv_at hl 5 rfl) ?_
  refine lv_iload hx hb dL_law_888 (lv_at hl 0 rfl) ?_
  refine lv_iconst (v := 2) hx hb dL_law_890 (by decide) ?_
  refine lv_iadd hx hb dL_law_891 ?_
  refine va_sld hx hb hX hbl hbA hS h2 dL_law_892 ?_
  refine lv_aload_n hx hb dL_law_893 rfl (lv_at hl 5 rfl) ?_
  refine lv_iload hx hb dL_law_894 (lv_at hl 0 rfl) ?_
  refine lv_iconst (v := 3) hx hb dL_law_896 (by decide) ?_
  refine lv_iadd hx hb dL_law_897 ?_
  refine va_sld hx hb hX hbl hbA hS h3 dL_law_898 ?_
  refine lv_aload_n hx hb dL_law_899 rfl (lv_at hl 2 rfl) ?_
  obtain ⟨N1, rc, N2, rm, e1, e2, hk, ht, hv, hR2⟩ := hE S M (xs (nI i + 1).toNatClampNeg) (xs (nI i + 2).toNatClampNeg) (xs (nI i + 3).toNatClampNeg) hR
  rw [lwW_1] at hP hD
  refine jSh C dL_law_900 (kh_nextDate l hl0 D G B ks va o1 f1 N1 S (xs (nI i + 1).toNatClampNeg) (xs (nI i + 2).toNatClampNeg) (xs (nI i + 3).toNatClampNeg) rc e1 hk) hy_nextDate jq_28_21 jq_28_22 ⟨Nat.le_of_ble_eq_true rfl, Nat.le_of_ble_eq_true rfl⟩ ⟨by show cells + 3 ≤ 603072; omega, by show slots + 18 ≤ 7174250; omega⟩ hZ hC (jMidP (pre := wM a G M) (mid := wTS B G S ++ [((o1, .inl (G 3, 1, .inr (.inl f1))) : Nat × va_E)]) (post := [((o2, .inl (G 4, 1, .inr (.inr (.inr (.inl f2))))) : Nat × va_E)]) hP) (jMidD (pre := wM a G M) (mid := wTS B G S ++ [((o1, .inl (G 3, 1, .inr (.inl f1))) : Nat × va_E)]) (post := [((o2, .inl (G 4, 1, .inr (.inr (.inr (.inl f2))))) : Nat × va_E)]) hD) hA hS hl (As := [.ref (B 9 0), .int (xs (nI i + 1).toNatClampNeg), .int (xs (nI i + 2).toNatClampNeg), .int (xs (nI i + 3).toNatClampNeg), .ref o1]) (rest := []) rfl (Nat.le_of_ble_eq_true rfl) (fun H1 locs hQ hz hkp hS => ?_)
  have hP := jMidJoin (pre := wM a G M) (mid := wTS B G S ++ [((o1, .inl (G 3, 1, .inr (.inl f1))) : Nat × va_E)]) (mid' := wTS B G rc.2.2 ++ [((o1, .inl (G 3, 1, .inr (.inl (hO rc.1 f1 rc.2.1)))) : Nat × va_E)]) (post := [((o2, .inl (G 4, 1, .inr (.inr (.inr (.inl f2))))) : Nat × va_E)]) hP hD hkp hQ
  have hP : va_P D vwCl (lwW a B G o1 o2 rc.2.2 M (hO rc.1 f1 rc.2.1) f2) H1 := by rw [lwW_1]; exact hP
  have hD : va_D A (lwW a B G o1 o2 rc.2.2 M (hO rc.1 f1 rc.2.1) f2) := lwD hD0
  clear hQ hz hkp
  generalize H1 = H at hP hS ⊢
  refine W.widen (k := cells + 3) (n := slots + 18) (show cells + 3 ≤ cells + 3 by omega) (show slots + 18 ≤ slots + 18 by omega) ?_
  refine lv_istore (lv' := [(6, .int (hk_nextDate rc.1)), (5, .int (nI i)), (4, .ref o2), (3, .ref o1), (2, .ref (a 0)), (1, .ref (B 9 0)), (0, .ref b)]) hx hb dL_law_903 hl (by decide) rfl (fun ls hl => ?_)
  refine lv_aload_n hx hb dL_law_905 rfl (lv_at hl 4 rfl) ?_
  refine lv_aload_n hx hb dL_law_906 rfl (lv_at hl 6 rfl) ?_
  refine lv_iload hx hb dL_law_907 (lv_at hl 1 rfl) ?_
  refine lv_iconst (v := 1) hx hb dL_law_909 (by decide) ?_
  refine lv_iadd hx hb dL_law_910 ?_
  refine va_sld hx hb hX hbl hbA hS h1 dL_law_911 ?_
  refine lv_aload_n hx hb dL_law_912 rfl (lv_at hl 6 rfl) ?_
  refine lv_iload hx hb dL_law_913 (lv_at hl 1 rfl) ?_
  refine lv_iconst (v := 2) hx hb dL_law_915 (by decide) ?_
  refine lv_iadd hx hb dL_law_916 ?_
  refine va_sld hx hb hX hbl hbA hS h2 dL_law_917 ?_
  refine lv_aload_n hx hb dL_law_918 rfl (lv_at hl 6 rfl) ?_
  refine lv_iload hx hb dL_law_919 (lv_at hl 1 rfl) ?_
  refine lv_iconst (v := 3) hx hb dL_law_921 (by decide) ?_
  refine lv_iadd hx hb dL_law_922 ?_
  refine va_sld hx hb hX hbl hbA hS h3 dL_law_923 ?_
  refine jVmI C dL_law_924 (k_X9_nextDate l D G a N2 M (xs (nI i + 1).toNatClampNeg) (xs (nI i + 2).toNatClampNeg) (xs (nI i + 3).toNatClampNeg) rm e2) jy_X9_nextDate jq_29_5 jq_29_6 jq_29_7 ⟨rfl, rfl, Nat.le_of_ble_eq_true rfl, Nat.le_of_ble_eq_true rfl⟩ ⟨by show cells + 3 ≤ 603072; omega, by show slots + 18 ≤ 7174250; omega⟩ (jMidP (pre := []) (mid := wM a G M) (post := wTS B G rc.2.2 ++ ([((o1, .inl (G 3, 1, .inr (.inl (hO rc.1 f1 rc.2.1)))) : Nat × va_E)] ++ [((o2, .inl (G 4, 1, .inr (.inr (.inr (.inl f2))))) : Nat × va_E)])) hP) (jMidD (pre := []) (mid := wM a G M) (post := wTS B G rc.2.2 ++ ([((o1, .inl (G 3, 1, .inr (.inl (hO rc.1 f1 rc.2.1)))) : Nat × va_E)] ++ [((o2, .inl (G 4, 1, .inr (.inr (.inr (.inl f2))))) : Nat × va_E)])) hD) hA hS (ci := 11) (iw := 0) rfl rfl rfl hl (As := [.int (xs (nI i + 1).toNatClampNeg), .int (xs (nI i + 2).toNatClampNeg), .int (xs (nI i + 3).toNatClampNeg)]) (rest := []) rfl (Nat.le_of_ble_eq_true rfl) (fun H1 locs hQ hz hkp hS => ?_)
  have hP : va_P D vwCl (lwW a B G o1 o2 rc.2.2 rm.2 (hO rc.1 f1 rc.2.1) f2) H1 := jMidJoin (pre := []) (mid := wM a G M) (mid' := wM a G rm.2) (post := wTS B G rc.2.2 ++ ([((o1, .inl (G 3, 1, .inr (.inl (hO rc.1 f1 rc.2.1)))) : Nat × va_E)] ++ [((o2, .inl (G 4, 1, .inr (.inr (.inr (.inl f2))))) : Nat × va_E)])) hP hD hkp hQ
  have hD : va_D A (lwW a B G o1 o2 rc.2.2 rm.2 (hO rc.1 f1 rc.2.1) f2) := lwD hD0
  clear hQ hz hkp
  generalize H1 = H at hP hS ⊢
  refine lv_istore (lv' := [(7, .int rm.1), (6, .int (hk_nextDate rc.1)), (5, .int (nI i)), (4, .ref o2), (3, .ref o1), (2, .ref (a 0)), (1, .ref (B 9 0)), (0, .ref b)]) hx hb dL_law_927 hl (by decide) rfl (fun ls hl => ?_)
  refine lv_aload_n hx hb dL_law_929 rfl (lv_at hl 5 rfl) ?_
  refine jVpI C dL_law_930 (k_X9_thrown l D G a N2 rm.2 (rm.2 0 0) rfl) jy_X9_thrown jq_15_8 jq_15_9 jq_15_10 ⟨rfl, rfl, Nat.le_of_ble_eq_true rfl, Nat.le_of_ble_eq_true rfl⟩ ⟨by show cells + 3 ≤ 603072; omega, by show slots + 18 ≤ 7174250; omega⟩ (jMidP (pre := []) (mid := wM a G rm.2) (post := wTS B G rc.2.2 ++ ([((o1, .inl (G 3, 1, .inr (.inl (hO rc.1 f1 rc.2.1)))) : Nat × va_E)] ++ [((o2, .inl (G 4, 1, .inr (.inr (.inr (.inl f2))))) : Nat × va_E)])) hP) (ci := 11) (iw := 0) rfl rfl rfl hl (As := []) (rest := []) rfl (Nat.le_of_ble_eq_true rfl) ?_
  refine lv_iload hx hb dL_law_933 (lv_at hl 1 rfl) ?_
  refine lv_icmp_eq (tgt := 940) hx hb dL_law_935 (by decide) (fun _ => ?_) (fun h => absurd ht h)
  refine lv_iload hx hb dL_law_940 (lv_at hl 1 rfl) ?_
  refine lv_if_ne (tgt := 957) hx hb dL_law_942 (by decide) (fun _ => ?_) (fun hz0 => ?_)
  · refine lv_goto (tgt := 2403) hx hb dL_law_957 (by decide) ?_
    exact kk rc.2.2 rm.2 (hO rc.1 f1 rc.2.1) f2 ls H locs hR2 hP hD hS (lv_sub hl [2, 3, 4, 5, 6, 7] rfl)
  · have hk0 : rc.1 = 0 := by
      rcases hk with hk | hk | hk | hk
      · exact hk
      · rw [hk] at hz0; exact absurd hz0 (by decide)
      · rw [hk] at hz0; exact absurd hz0 (by decide)
      · rw [hk] at hz0; exact absurd hz0 (by decide)
    refine lv_aload_n hx hb dL_law_945 rfl (lv_at hl 4 rfl) ?_
    refine lv_iconst (v := 0) hx hb dL_law_946 (by decide) ?_
    rw [lwW_1] at hP
    refine va_lald (n := 1) hx hb hK hP ((wM a G rm.2).length + (wTS B G rc.2.2).length) 3 (jAt1 _ _ _ _) rfl (inb_of (by decide)) dL_law_947 ?_
    rw [← lwW_1] at hP
    refine lv_iload hx hb dL_law_948 (lv_at hl 0 rfl) ?_
    refine lv_i2l hx hb dL_law_950 rfl ?_
    refine W.lcmp hx hb dL_law_951 ?_
    have hzz : lg_cmp ((hO rc.1 f1 rc.2.1) (0 : Int32).toNatClampNeg) rm.1.toInt64 = 0 := lgc (by unfold hO; rw [if_pos hk0, hv hk0]; rfl)
    refine lv_if_eq (tgt := 957) hx hb dL_law_952 (by decide) (fun _ => ?_) (fun h => absurd hzz h)
    refine lv_goto (tgt := 2403) hx hb dL_law_957 (by decide) ?_
    exact kk rc.2.2 rm.2 (hO rc.1 f1 rc.2.1) f2 ls H locs hR2 hP hD hS (lv_sub hl [2, 3, 4, 5, 6, 7] rfl)
def jE_bestMove (Rl : (Nat → Nat → Nat → Int32) → (Nat → Nat → Int32) → Prop) : Prop := ∀ (S : Nat → Nat → Nat → Int32) (M : Nat → Nat → Int32) (v1 : Int32), Rl S M → ∃ (N1 : Nat) (rc : _) (N2 : Nat) (rm : _), F_X8_bestMove N1 S v1 = some rc ∧ F_X9_bestMove N2 M v1 = some rm ∧ (rc.1 = 0 ∨ rc.1 = 1 ∨ rc.1 = 5) ∧ rm.2 0 0 = hk_bestMove rc.1 ∧ (rc.1 = 0 → rc.2.1 = rm.1) ∧ Rl rc.2.2 rm.2
theorem hy_bestMove : hY yL_bestMove cL_bestMove 4 [(0, 9, 12, 13), (0, 9, 15, 51)] 3 := ⟨by decide +kernel, jq_29_15, jq_6_7⟩
set_option maxHeartbeats 4000000 in
set_option maxRecDepth 100000 in
theorem lc_bestMove {p : Program} {l : Launch} {e : Env} {s : State} {m : MethodId} {args : Array Value} {below : List Frame} {meth : Method} {c : Code} {Q : State → Prop} {D : va_G} {G : Nat → ClassId} {A : Nat → Prop} {ks va : Nat → Nat} {b L i : Nat} {xs : Nat → Int32} {a : Nat → Nat} {B : Nat → Nat → Nat} {o1 o2 : Nat} {Rl : (Nat → Nat → Nat → Int32) → (Nat → Nat → Int32) → Prop} {ret : Option FieldType}
    (C : Cx p s m args meth c cL_law 9 RL ret D G) (hl0 : l.stackTraces = false) (hZ : jZ ks va A s s.heap) (hC : jC s) (hA : ∀ q : Nat, s.heap.size ≤ q → A q) (hX : va_X b L xs s s.heap) (hbl : b < s.heap.size) (hbA : ¬ A b) (h0 : vp_in (nI i) L) (h1 : vp_in (nI i + 1) L) (h2 : vp_in (nI i + 2) L) (h3 : vp_in (nI i + 3) L) (h4 : vp_in (nI i + 4) L) (hE : jE_bestMove Rl) : ∀ (S : Nat → Nat → Nat → Int32) (M : Nat → Nat → Int32) (f1 : Nat → Int64) (f2 : Nat → UInt64) (ls : Array Slot) (H : Heap) (locs : List Loc) (cells slots : Nat), cells + 3 ≤ 603072 → slots + 18 ≤ 7174250 → Rl S M → va_P D vwCl (lwW a B G o1 o2 S M f1 f2) H → va_D A (lwW a B G o1 o2 S M f1 f2) → va_S A s.heap H locs → lv_has ls 9 [(5, .int (nI i)), (4, .ref o2), (3, .ref o1), (2, .ref (a 0)), (1, .ref (B 9 0)), (0, .ref b)] → (∀ (S : Nat → Nat → Nat → Int32) (M : Nat → Nat → Int32) (f1 : Nat → Int64) (f2 : Nat → UInt64) (ls : Array Slot) (H : Heap) (locs : List Loc), Rl S M → va_P D vwCl (lwW a B G o1 o2 S M f1 f2) H → va_D A (lwW a B G o1 o2 S M f1 f2) → va_S A s.heap H locs → lv_has ls 9 [(5, .int (nI i)), (4, .ref o2), (3, .ref o1), (2, .ref (a 0)), (1, .ref (B 9 0)), (0, .ref b)] → W p l e room_1 s m args below meth c H locs (cells + 3) (slots + 18) Q (F0 m 2403 ls [])) → W p l e room_1 s m args below meth c H locs cells slots Q (F0 m 960 ls []) := by
  intro S M f1 f2 ls H locs cells slots hcc hcs hR hP hD hS hl kk
  have hD0 := hD
  obtain ⟨hx, hb, hr, hml, hts, hown, hlocks, hK0⟩ := id C
  have hK := hK0.1
  refine lv_aload_n hx hb dL_law_960 rfl (lv_at hl 4 rfl) ?_
  refine lv_aload_n hx hb dL_law_961 rfl (lv_at hl 5 rfl) ?_
  refine lv_iload hx hb dL_law_962 (lv_at hl 0 rfl) ?_
  refine lv_iconst (v := 1) hx hb dL_law_964 (by decide) ?_
  refine lv_iadd hx hb dL_law_965 ?_
  refine va_sld hx hb hX hbl hbA hS h1 dL_law_966 ?_
  refine lv_aload_n hx hb dL_law_967 rfl (lv_at hl 2 rfl) ?_
  obtain ⟨N1, rc, N2, rm, e1, e2, hk, ht, hv, hR2⟩ := hE S M (xs (nI i + 1).toNatClampNeg) hR
  rw [lwW_1] at hP hD
  refine jSh C dL_law_968 (kh_bestMove l hl0 D G B ks va o1 f1 N1 S (xs (nI i + 1).toNatClampNeg) rc e1 hk) hy_bestMove jq_29_13 jq_29_14 ⟨Nat.le_of_ble_eq_true rfl, Nat.le_of_ble_eq_true rfl⟩ ⟨by show cells + 2 ≤ 603072; omega, by show slots + 12 ≤ 7174250; omega⟩ hZ hC (jMidP (pre := wM a G M) (mid := wTS B G S ++ [((o1, .inl (G 3, 1, .inr (.inl f1))) : Nat × va_E)]) (post := [((o2, .inl (G 4, 1, .inr (.inr (.inr (.inl f2))))) : Nat × va_E)]) hP) (jMidD (pre := wM a G M) (mid := wTS B G S ++ [((o1, .inl (G 3, 1, .inr (.inl f1))) : Nat × va_E)]) (post := [((o2, .inl (G 4, 1, .inr (.inr (.inr (.inl f2))))) : Nat × va_E)]) hD) hA hS hl (As := [.ref (B 9 0), .int (xs (nI i + 1).toNatClampNeg), .ref o1]) (rest := []) rfl (Nat.le_of_ble_eq_true rfl) (fun H1 locs hQ hz hkp hS => ?_)
  have hP := jMidJoin (pre := wM a G M) (mid := wTS B G S ++ [((o1, .inl (G 3, 1, .inr (.inl f1))) : Nat × va_E)]) (mid' := wTS B G rc.2.2 ++ [((o1, .inl (G 3, 1, .inr (.inl (hO rc.1 f1 rc.2.1)))) : Nat × va_E)]) (post := [((o2, .inl (G 4, 1, .inr (.inr (.inr (.inl f2))))) : Nat × va_E)]) hP hD hkp hQ
  have hP : va_P D vwCl (lwW a B G o1 o2 rc.2.2 M (hO rc.1 f1 rc.2.1) f2) H1 := by rw [lwW_1]; exact hP
  have hD : va_D A (lwW a B G o1 o2 rc.2.2 M (hO rc.1 f1 rc.2.1) f2) := lwD hD0
  clear hQ hz hkp
  generalize H1 = H at hP hS ⊢
  refine W.widen (k := cells + 3) (n := slots + 18) (show cells + 2 ≤ cells + 3 by omega) (show slots + 12 ≤ slots + 18 by omega) ?_
  refine lv_istore (lv' := [(6, .int (hk_bestMove rc.1)), (5, .int (nI i)), (4, .ref o2), (3, .ref o1), (2, .ref (a 0)), (1, .ref (B 9 0)), (0, .ref b)]) hx hb dL_law_971 hl (by decide) rfl (fun ls hl => ?_)
  refine lv_aload_n hx hb dL_law_973 rfl (lv_at hl 4 rfl) ?_
  refine lv_aload_n hx hb dL_law_974 rfl (lv_at hl 6 rfl) ?_
  refine lv_iload hx hb dL_law_975 (lv_at hl 1 rfl) ?_
  refine lv_iconst (v := 1) hx hb dL_law_977 (by decide) ?_
  refine lv_iadd hx hb dL_law_978 ?_
  refine va_sld hx hb hX hbl hbA hS h1 dL_law_979 ?_
  refine jVmI C dL_law_980 (k_X9_bestMove l D G a N2 M (xs (nI i + 1).toNatClampNeg) rm e2) jy_X9_bestMove jq_30_7 jq_30_8 jq_30_9 ⟨rfl, rfl, Nat.le_of_ble_eq_true rfl, Nat.le_of_ble_eq_true rfl⟩ ⟨by show cells + 3 ≤ 603072; omega, by show slots + 18 ≤ 7174250; omega⟩ (jMidP (pre := []) (mid := wM a G M) (post := wTS B G rc.2.2 ++ ([((o1, .inl (G 3, 1, .inr (.inl (hO rc.1 f1 rc.2.1)))) : Nat × va_E)] ++ [((o2, .inl (G 4, 1, .inr (.inr (.inr (.inl f2))))) : Nat × va_E)])) hP) (jMidD (pre := []) (mid := wM a G M) (post := wTS B G rc.2.2 ++ ([((o1, .inl (G 3, 1, .inr (.inl (hO rc.1 f1 rc.2.1)))) : Nat × va_E)] ++ [((o2, .inl (G 4, 1, .inr (.inr (.inr (.inl f2))))) : Nat × va_E)])) hD) hA hS (ci := 11) (iw := 0) rfl rfl rfl hl (As := [.int (xs (nI i + 1).toNatClampNeg)]) (rest := []) rfl (Nat.le_of_ble_eq_true rfl) (fun H1 locs hQ hz hkp hS => ?_)
  have hP : va_P D vwCl (lwW a B G o1 o2 rc.2.2 rm.2 (hO rc.1 f1 rc.2.1) f2) H1 := jMidJoin (pre := []) (mid := wM a G M) (mid' := wM a G rm.2) (post := wTS B G rc.2.2 ++ ([((o1, .inl (G 3, 1, .inr (.inl (hO rc.1 f1 rc.2.1)))) : Nat × va_E)] ++ [((o2, .inl (G 4, 1, .inr (.inr (.inr (.inl f2))))) : Nat × va_E)])) hP hD hkp hQ
  have hD : va_D A (lwW a B G o1 o2 rc.2.2 rm.2 (hO rc.1 f1 rc.2.1) f2) := lwD hD0
  clear hQ hz hkp
  generalize H1 = H at hP hS ⊢
  refine lv_istore (lv' := [(7, .int rm.1), (6, .int (hk_bestMove rc.1)), (5, .int (nI i)), (4, .ref o2), (3, .ref o1), (2, .ref (a 0)), (1, .ref (B 9 0)), (0, .ref b)]) hx hb dL_law_983 hl (by decide) rfl (fun ls hl => ?_)
  refine lv_aload_n hx hb dL_law_985 rfl (lv_at hl 5 rfl) ?_
  refine jVpI C dL_law_986 (k_X9_thrown l D G a N2 rm.2 (rm.2 0 0) rfl) jy_X9_thrown jq_15_8 jq_15_9 jq_15_10 ⟨rfl, rfl, Nat.le_of_ble_eq_true rfl, Nat.le_of_ble_eq_true rfl⟩ ⟨by show cells + 3 ≤ 603072; omega, by show slots + 18 ≤ 7174250; omega⟩ (jMidP (pre := []) (mid := wM a G rm.2) (post := wTS B G rc.2.2 ++ ([((o1, .inl (G 3, 1, .inr (.inl (hO rc.1 f1 rc.2.1)))) : Nat × va_E)] ++ [((o2, .inl (G 4, 1, .inr (.inr (.inr (.inl f2))))) : Nat × va_E)])) hP) (ci := 11) (iw := 0) rfl rfl rfl hl (As := []) (rest := []) rfl (Nat.le_of_ble_eq_true rfl) ?_
  refine lv_iload hx hb dL_law_989 (lv_at hl 1 rfl) ?_
  refine lv_icmp_eq (tgt := 996) hx hb dL_law_991 (by decide) (fun _ => ?_) (fun h => absurd ht h)
  refine lv_iload hx hb dL_law_996 (lv_at hl 1 rfl) ?_
  refine lv_if_ne (tgt := 1013) hx hb dL_law_998 (by decide) (fun _ => ?_) (fun hz0 => ?_)
  · refine lv_goto (tgt := 2403) hx hb dL_law_1013 (by decide) ?_
    exact kk rc.2.2 rm.2 (hO rc.1 f1 rc.2.1) f2 ls H locs hR2 hP hD hS (lv_sub hl [2, 3, 4, 5, 6, 7] rfl)
  · have hk0 : rc.1 = 0 := by
      rcases hk with hk | hk | hk
      · exact hk
      · rw [hk] at hz0; exact absurd hz0 (by decide)
      · rw [hk] at hz0; exact absurd hz0 (by decide)
    refine lv_aload_n hx hb dL_law_1001 rfl (lv_at hl 4 rfl) ?_
    refine lv_iconst (v := 0) hx hb dL_law_1002 (by decide) ?_
    rw [lwW_1] at hP
    refine va_lald (n := 1) hx hb hK hP ((wM a G rm.2).length + (wTS B G rc.2.2).length) 3 (jAt1 _ _ _ _) rfl (inb_of (by decide)) dL_law_1003 ?_
    rw [← lwW_1] at hP
    refine lv_iload hx hb dL_law_1004 (lv_at hl 0 rfl) ?_
    refine lv_i2l hx hb dL_law_1006 rfl ?_
    refine W.lcmp hx hb dL_law_1007 ?_
    have hzz : lg_cmp ((hO rc.1 f1 rc.2.1) (0 : Int32).toNatClampNeg) rm.1.toInt64 = 0 := lgc (by unfold hO; rw [if_pos hk0, hv hk0]; rfl)
    refine lv_if_eq (tgt := 1013) hx hb dL_law_1008 (by decide) (fun _ => ?_) (fun h => absurd hzz h)
    refine lv_goto (tgt := 2403) hx hb dL_law_1013 (by decide) ?_
    exact kk rc.2.2 rm.2 (hO rc.1 f1 rc.2.1) f2 ls H locs hR2 hP hD hS (lv_sub hl [2, 3, 4, 5, 6, 7] rfl)
