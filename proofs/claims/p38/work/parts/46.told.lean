/-! int[30][3]: made by one instruction, read, and written -/
abbrev wTo (G : Nat → ClassId) (tA : Nat → Nat) (M : Nat → Nat → Int32) : va_W := ((tA 0, .inl (G 3, 30, .inr (.inr (.inr (.inr (fun i => some (tA (i + 1)))))))) : Nat × va_E) :: (List.range 30).map (fun i => ((tA (i + 1), .inl (G 0, 3, .inl (M i))) : Nat × va_E))
abbrev wLw (B : Nat → Nat → Nat) (G : Nat → ClassId) (tA : Nat → Nat) (S : CS) (M : Nat → Nat → Int32) : va_W := wTS B G S ++ wTo G tA M
def tU (M : Nat → Nat → Int32) (i j : Nat) (v : Int32) : Nat → Nat → Int32 := fun x => if x = i then upd (M i) j v else M x
theorem tRow (B : Nat → Nat → Nat) (G : Nat → ClassId) (tA : Nat → Nat) (S : CS) (M : Nat → Nat → Int32) {i : Nat} (hi : i < 30) : (wLw B G tA S M)[(wTS B G S).length + (i + 1)]? = some (tA (i + 1), .inl (G 0, 3, .inl (M i))) := by
  rw [List.getElem?_append_right (by omega), Nat.add_sub_cancel_left, List.getElem?_cons_succ, List.getElem?_map, List.getElem?_range hi]
  rfl
theorem tSetMap {α : Type} (f f' : Nat → α) {n i : Nat} (h : ∀ j, j ≠ i → f' j = f j) : ((List.range n).map f).set i (f' i) = (List.range n).map f' := by
  apply List.ext_getElem?
  intro k
  by_cases hk : k = i
  · subst hk
    by_cases hn : k < n
    · rw [List.getElem?_set_self (by simpa using hn), List.getElem?_map, List.getElem?_range hn]
      rfl
    · rw [List.getElem?_eq_none (by simp; omega), List.getElem?_eq_none (by simp; omega)]
  · rw [List.getElem?_set_ne (Ne.symm hk), List.getElem?_map, List.getElem?_map]
    by_cases hn : k < n
    · rw [List.getElem?_range hn]
      show some (f k) = some (f' k)
      rw [h k hk]
    · rw [List.getElem?_eq_none (by simp; omega)]
      rfl
theorem tSetW (B : Nat → Nat → Nat) (G : Nat → ClassId) (tA : Nat → Nat) (S : CS) (M : Nat → Nat → Int32) (i j : Nat) (v : Int32) : (wLw B G tA S M).set ((wTS B G S).length + (i + 1)) (tA (i + 1), .inl (G 0, 3, .inl (upd (M i) j v))) = wLw B G tA S (tU M i j v) := by
  have e : tU M i j v i = upd (M i) j v := if_pos rfl
  have h := tSetMap (n := 30) (i := i) (fun x => ((tA (x + 1), .inl (G 0, 3, .inl (M x))) : Nat × va_E)) (fun x => ((tA (x + 1), .inl (G 0, 3, .inl (tU M i j v x))) : Nat × va_E)) (fun x hx => by
    show ((tA (x + 1), .inl (G 0, 3, .inl (tU M i j v x))) : Nat × va_E) = _
    rw [show tU M i j v x = M x from if_neg hx])
  have h2 : ((List.range 30).map (fun x => ((tA (x + 1), .inl (G 0, 3, .inl (M x))) : Nat × va_E))).set i (tA (i + 1), .inl (G 0, 3, .inl (upd (M i) j v))) = (List.range 30).map (fun x => ((tA (x + 1), .inl (G 0, 3, .inl (tU M i j v x))) : Nat × va_E)) := by
    rw [← e]; exact h
  rw [List.set_append_right _ _ (by omega), Nat.add_sub_cancel_left, List.set_cons_succ]
  exact congrArg (fun z => wTS B G S ++ (_ :: z)) h2
theorem tD {A : Nat → Prop} {B : Nat → Nat → Nat} {G : Nat → ClassId} {tA : Nat → Nat} {S : CS} {M : Nat → Nat → Int32} (S' : CS) (M' : Nat → Nat → Int32) (h : va_D A (wLw B G tA S M)) : va_D A (wLw B G tA S' M') := by
  refine jD ?_ h
  simp only [List.map_append, dTS S S', List.map_cons, List.map_map]
  rfl
section TO
variable {p : Program} {l : Launch} {e : Env} {R : Room} {s : State} {m : MethodId} {args : Array Value} {below : List Frame} {meth : Method} {c : Code} {H : Heap} {locs : List Loc} {cells slots : Nat} {Q : State → Prop} {cc : ByteArray} {D : va_G} {G : Nat → ClassId} {pc : Nat} {ls : Array Slot} {A : Nat → Prop} {rest : List Value} {B : Nat → Nat → Nat} {tA : Nat → Nat} {S : CS} {M : Nat → Nat → Int32}
theorem t_lt {i : Int32} {n : Nat} (hi : inb i n = true) : i.toNatClampNeg < n := Nat.not_le.mp fun q => (inb_of hi) (Or.inr q)
theorem tAaldA {cl : List vw_C} {tys : List (ClassId × FieldType)} {ws : va_W} {a : Nat} (hexec : p.tables.exec = Jvm.exec) (hb : c.code = cc) (hK : va_K D cl tys s) (hP : va_P D cl ws H) (q0 t0 : Nat) {cA : ClassId} {n : Nat} {f : Nat → Option Nat} (ha : ws[q0]? = some (a, .inl (cA, n, .inr (.inr (.inr (.inr f)))))) (ht : tys[t0]? = some (cA, .array .int)) {i : Int32} (hin : vp_in i n) (hdg : decode cc pc = .ok (.aaload, 1))
    (kk : W p l e R s m args below meth c H locs cells slots Q (F0 m (pc + 1) ls (va_rf (f i.toNatClampNeg) :: rest))) : W p l e R s m args below meth c H locs cells slots Q (F0 m pc ls (.int i :: .ref a :: rest)) := by
  have hlt : i.toNatClampNeg < n := Nat.not_le.mp fun q => hin (Or.inr q)
  exact W.aald (v := va_rf (f i.toNatClampNeg)) (ty := .array .int) hexec hb (hP q0 _ ha) ((hK.2 t0 _ ht).1 n (fun j => va_rf (f j))) rfl (fun q => by cases q) (by show ¬ (i < 0 ∨ (arrV _ _ _).slots.size ≤ _); rw [arrV_size]; exact hin) (by show (arrV _ _ _).slots[_]? = _; rw [arrV_read _ _ hlt]) rfl rfl hdg kk
theorem tAald (hexec : p.tables.exec = Jvm.exec) (hb : c.code = cc) (hK : va_K D vwCl (jT G) s) (hP : va_P D vwCl (wLw B G tA S M) H) {i : Int32} (hi : inb i 30 = true) (hdg : decode cc pc = .ok (.aaload, 1))
    (kk : W p l e R s m args below meth c H locs cells slots Q (F0 m (pc + 1) ls (.ref (tA (i.toNatClampNeg + 1)) :: rest))) : W p l e R s m args below meth c H locs cells slots Q (F0 m pc ls (.int i :: .ref (tA 0) :: rest)) := by
  have ha : (wLw B G tA S M)[(wTS B G S).length]? = some (tA 0, .inl (G 3, 30, .inr (.inr (.inr (.inr (fun i => some (tA (i + 1)))))))) := by
    rw [List.getElem?_append_right (Nat.le_refl _), Nat.sub_self]
    rfl
  exact tAaldA hexec hb hK hP _ 3 (f := fun i => some (tA (i + 1))) ha rfl (inb_of hi) hdg kk
theorem tIald (hexec : p.tables.exec = Jvm.exec) (hb : c.code = cc) (hK : va_K D vwCl (jT G) s) (hP : va_P D vwCl (wLw B G tA S M) H) {i j : Int32} (hi : inb i 30 = true) (hj : inb j 3 = true) (hdg : decode cc pc = .ok (.iaload, 1))
    (kk : W p l e R s m args below meth c H locs cells slots Q (F0 m (pc + 1) ls (.int (M i.toNatClampNeg j.toNatClampNeg) :: rest))) : W p l e R s m args below meth c H locs cells slots Q (F0 m pc ls (.int j :: .ref (tA (i.toNatClampNeg + 1)) :: rest)) :=
  va_iald hexec hb hK hP _ 0 (tRow B G tA S M (t_lt hi)) rfl (inb_of hj) hdg kk
theorem tIast (hexec : p.tables.exec = Jvm.exec) (hb : c.code = cc) (hK : va_K D vwCl (jT G) s) (hP : va_P D vwCl (wLw B G tA S M) H) (hD : va_D A (wLw B G tA S M)) (hS : va_S A s.heap H locs) {i j v : Int32} (hi : inb i 30 = true) (hj : inb j 3 = true) (hdg : decode cc pc = .ok (.iastore, 1))
    (kk : ∀ (H1 : Heap) (locs1 : List Loc), va_P D vwCl (wLw B G tA S (tU M i.toNatClampNeg j.toNatClampNeg v)) H1 → va_D A (wLw B G tA S (tU M i.toNatClampNeg j.toNatClampNeg v)) → va_S A s.heap H1 locs1 → W p l e R s m args below meth c H1 locs1 cells slots Q (F0 m (pc + 1) ls rest)) : W p l e R s m args below meth c H locs cells slots Q (F0 m pc ls (.int v :: .int j :: .ref (tA (i.toNatClampNeg + 1)) :: rest)) := by
  refine va_iast hexec hb hK hP hD hS _ 0 (tRow B G tA S M (t_lt hi)) rfl (inb_of hj) hdg (fun H1 locs1 h1 h2 h3 => ?_)
  rw [tSetW] at h1 h2
  exact kk H1 locs1 h1 h2 h3
end TO
/-- what stands in the outer row when i inner rows are made -/
def tmR (h : Nat) (i : Nat) : Nat → Value := fun j => if j < i then .ref (h + 1 + j) else .null
theorem tmR_0 (h : Nat) : tmR h 0 = fun _ => .null := by
  funext j
  exact if_neg (Nat.not_lt_zero j)
theorem tmR_up (h i : Nat) : updV (tmR h i) i (.ref (h + 1 + i)) = tmR h (i + 1) := by
  funext j
  unfold updV tmR
  by_cases e : j = i
  · subst e
    rw [if_pos rfl, if_pos (Nat.lt_succ_self _)]
  · rw [if_neg e]
    by_cases h1 : j < i
    · rw [if_pos h1, if_pos (by omega)]
    · rw [if_neg h1, if_neg (by omega)]
/-- the state when i inner rows are made -/
def tmF (c d : ClassId) (s : State) : Nat → State
  | 0 => s.pushCell (arrV c 30 (tmR s.heap.size 0))
  | i + 1 => ((tmF c d s i).pushCell (arrV d 3 (fun _ => .int 0))).setCell s.heap.size (arrV c 30 (tmR s.heap.size (i + 1)))
theorem tmF_facts (c d : ClassId) (s : State) (i : Nat) : (tmF c d s i).heap.size = s.heap.size + 1 + i ∧ (tmF c d s i).heap[s.heap.size]? = some (arrV c 30 (tmR s.heap.size i)) ∧ (tmF c d s i).vm = s.vm ∧ (tmF c d s i).slotsUsed = s.slotsUsed + 30 + i * 3 := by
  induction i with
  | zero => exact ⟨by simp [tmF], State.heap_pushCell_size _ _, rfl, by simp [tmF, arrV_size]⟩
  | succ i ih =>
    obtain ⟨h1, h2, h3, h4⟩ := ih
    have hlt : s.heap.size < (tmF c d s i).heap.size := by omega
    have hc : ((tmF c d s i).pushCell (arrV d 3 (fun _ => .int 0))).heap[s.heap.size]? = some (arrV c 30 (tmR s.heap.size i)) := by
      rw [State.heap_pushCell_of_lt (h := hlt)]
      exact h2
    refine ⟨?_, State.heap_setCell_self hc, by simp [tmF, h3], ?_⟩
    · simp [tmF, State.setCell, h1]
      omega
    · simp [tmF, h4, arrV_size, Nat.succ_mul]
      omega
theorem tmF_old (c d : ClassId) (s : State) {a : Nat} (ha : a < s.heap.size) (i : Nat) : (tmF c d s i).heap[a]? = s.heap[a]? := by
  induction i with
  | zero => exact State.heap_pushCell_of_lt _ _ ha
  | succ i ih =>
    have h1 := (tmF_facts c d s i).1
    have hlt : a < (tmF c d s i).heap.size := by omega
    show (((tmF c d s i).pushCell _).setCell s.heap.size _).heap[a]? = _
    rw [State.heap_setCell_other (Nat.ne_of_gt ha), State.heap_pushCell_of_lt (h := hlt)]
    exact ih
theorem tmF_row (c d : ClassId) (s : State) (i j : Nat) (h : j < i) : (tmF c d s i).heap[s.heap.size + 1 + j]? = some (arrV d 3 (fun _ => .int 0)) := by
  induction i with
  | zero => exact absurd h (Nat.not_lt_zero j)
  | succ i ih =>
    have h1 := (tmF_facts c d s i).1
    show (((tmF c d s i).pushCell _).setCell s.heap.size _).heap[s.heap.size + 1 + j]? = _
    rw [State.heap_setCell_other (show s.heap.size ≠ s.heap.size + 1 + j by omega)]
    by_cases hj : j < i
    · rw [State.heap_pushCell_of_lt (h := show s.heap.size + 1 + j < (tmF c d s i).heap.size by omega)]
      exact ih hj
    · obtain rfl : j = i := by omega
      rw [← h1]
      exact State.heap_pushCell_size _ _
theorem tmF_top (c d : ClassId) (s : State) (f : JFrame) (i : Nat) : tmF c d (s.setTop f) i = (tmF c d s i).setTop f := by
  induction i with
  | zero => rfl
  | succ i ih => simp only [tmF, ih, State.heap_setTop, State.pushCell_setTop, State.setCell_setTop]
section TW
variable {E : CtlPost} {e : Env} {d : Bool} {acts : List Action} {s : State}
/-- one new array -/
theorem tm_one {c o : ClassId} {k : Class} {ty : FieldType} {n : Nat} {v : Value} (hk : s.vm.classes[c]? = some k) (hkind : k.kind = .array o ty) (hl : ¬ n > e.platform.arrayLengthLimit) (hh : ¬ n * componentBytes ty > e.platform.maxHeapBytes) (hf : fits ty v = true) (hv : v.isDefault = true) {Q : Addr → Pre}
    (h1 : s.heap.size < e.platform.maxCells) (h2 : s.slotsUsed + n ≤ e.platform.maxSlots) (hq : Q s.heap.size d acts (s.pushCell (arrV c n (fun _ => v)))) : wp (Jvm.newArray c n v) Q E e d acts s := by
  have hfit : ∀ i w, (Array.replicate n v)[i]? = some w → s.fitsSlot c .none i w = true := by
    intro i w hw
    rw [Array.getElem?_replicate] at hw
    split at hw
    · cases hw
      simp [State.fitsSlot, State.slotType?, hk, hkind, hf]
    · cases hw
  have hact : allocActs (Array.replicate n v) s.heap.size acts = acts := by
    unfold allocActs
    rw [if_pos]
    rw [Array.all_replicate]
    split <;> simp [hv]
  rw [← arrV_new] at hq
  simp only [Jvm.newArray, Jvm.arrayFits, wp_bind', W.ask, W.ite, hl, if_false, wp_pure', W.theClass, hk, hkind, hh, W.alloc, W.stop, Option.some.injEq, exists_eq_left', Array.size_replicate, hact]
  rw [if_neg (by omega)]
  exact ⟨h1, h2, hfit, hq⟩
/-- all of them -/
theorem tm_all {c o o2 : ClassId} {k k2 : Class} (hk : s.vm.classes[c]? = some k) (hkind : k.kind = .array o (.array .int)) (hk2 : s.vm.classes[o]? = some k2) (hkind2 : k2.kind = .array o2 .int) (hl : ¬ 30 > e.platform.arrayLengthLimit) (hh : ¬ 30 * componentBytes (.array .int) > e.platform.maxHeapBytes) (hl2 : ¬ 3 > e.platform.arrayLengthLimit) (hh2 : ¬ 3 * componentBytes .int > e.platform.maxHeapBytes)
    (h1 : s.heap.size + 31 ≤ e.platform.maxCells) (h2 : s.slotsUsed + 120 ≤ e.platform.maxSlots) {Q : Addr → Pre} (hq : ∀ d' acts', Q s.heap.size d' acts' (tmF c o s 30)) : wp (multianewarray.make c [30, 3]) Q E e d acts s := by
  have e30 : (30 : Int32).toNatClampNeg = 30 := rfl
  have e3 : (3 : Int32).toNatClampNeg = 3 := rfl
  rw [multianewarray.make]
  simp only [wp_bind', W.ite, show ¬ (30 : Int32) < 0 by decide, if_false, wp_pure', W.theClass, hk, hkind, Option.some.injEq, exists_eq_left']
  rw [e30]
  refine tm_one hk hkind hl hh rfl rfl (by omega) (by omega) ?_
  rw [← tmR_0 s.heap.size]
  simp only [show ([3].find? (· < 0) : Option Int32) = none by decide]
  rw [ite_self, wp_bind', Std.Legacy.Range.forIn_eq_forIn_range']
  show wp (forIn (List.range' 0 30 1) PUnit.unit _) _ E e d acts _
  refine wp_forIn_inv (fun rest s' => ∃ i, i ≤ 30 ∧ rest = List.range' i (30 - i) ∧ s' = tmF c o s i) _ _ ⟨0, by omega, rfl, rfl⟩ ?_ ?_
  · rintro x rest s' d' acts' Q' ⟨i, hi, hr, rfl⟩ hnext
    have hlt : i < 30 := by
      rcases Nat.lt_or_ge i 30 with h | h
      · exact h
      · rw [show 30 - i = 0 by omega] at hr
        simp at hr
    rw [show 30 - i = (30 - (i + 1)) + 1 by omega, List.range'_succ] at hr
    obtain ⟨rfl, hr2⟩ := List.cons.inj hr
    obtain ⟨f1, f2, f3, f4⟩ := tmF_facts c o s x
    simp only [wp_bind']
    rw [multianewarray.make]
    simp only [wp_bind', W.ite, show ¬ (3 : Int32) < 0 by decide, if_false, wp_pure', W.theClass, f3, hk2, hkind2, Option.some.injEq, exists_eq_left']
    rw [e3]
    refine tm_one (by rw [f3]; exact hk2) hkind2 hl2 hh2 rfl rfl (by omega) (by omega) ?_
    have hlt0 : s.heap.size < (tmF c o s x).heap.size := by omega
    simp only [wp_bind', W.writeLoc, wp_pure']
    refine ⟨arrV c 30 (tmR s.heap.size x), by rw [State.heap_pushCell_of_lt (h := hlt0)]; exact f2, by simp [arrV], by rw [arrV_size]; exact hlt, ?_, hnext _ _ _ ⟨x + 1, hlt, hr2, ?_⟩⟩
    · simp [State.fitsSlot, State.slotType?, f3, hk, hkind, arrV, fits]
    · rw [arrV_store, f1, tmR_up]
      rfl
  · rintro s' d' acts' ⟨i, hi, hr, rfl⟩
    have h30 : i = 30 := by
      rcases Nat.lt_or_ge i 30 with h | h
      · rw [show 30 - i = (30 - (i + 1)) + 1 by omega, List.range'_succ] at hr
        cases hr
      · omega
    subst h30
    simp only [wp_pure']
    exact hq d' acts'
end TW
theorem tm_over {args : Array Value} {first s : State} {o : Option Outcome} {idx : List Nat} (h : (Cond.arrayOver (.array .int)).holds args first o s idx = true) :
    ∃ (d c : ClassId) (k : Class), s.vm.findClass (FieldType.array .int).toString = some d ∧ s.vm.classes[c]? = some k ∧ k.kind = .array d (.array .int) ∧ s.vm.findClass ("[" ++ (FieldType.array .int).toString) = some c := by
  simp only [Cond.holds, Cond.value, beq_iff_eq] at h
  cases hd : s.vm.findClass (FieldType.array .int).toString with
  | none => simp [hd] at h
  | some d =>
    simp only [hd, Option.bind_some, Option.bind_eq_some_iff, Option.map_eq_some_iff] at h
    obtain ⟨c, hi, k, hk, hb⟩ := h
    obtain ⟨hlt, hp, -⟩ := Array.findIdx?_eq_some_iff_getElem.mp hi
    have hkk : s.vm.classes[c] = k := (Array.getElem?_eq_some_iff.mp hk).2
    rw [hkk] at hp
    cases hkind : k.kind with
    | array component ty =>
      rw [hkind] at hb hp
      simp at hb hp
      exact ⟨d, c, k, rfl, hk, by rw [hkind, hp, hb.1], hb.2⟩
    | _ => rw [hkind] at hb; simp at hb
section TN
variable {p : Program} {l : Launch} {e : Env} {R : Room} {s : State} {m : MethodId} {args : Array Value} {below : List Frame} {meth : Method} {c : Code} {T : State} {H : Heap} {locs : List Loc} {cells slots : Nat} {Q : State → Prop} {cc : ByteArray} {nL : Nat} {own : String} {ret : Option FieldType} {D : va_G} {G : Nat → ClassId} {pc : Nat} {ls : Array Slot} {A : Nat → Prop} {rest : List Value} {B : Nat → Nat → Nat} {S : CS}
theorem tm_stand (X : Stand p l e R s m args below meth c T locs cells slots) (cA d : ClassId) (i : Nat) : Stand p l e R s m args below meth c (tmF cA d T i) (locs ++ (List.range i).map fun j => ⟨T.heap.size, j⟩) (cells + 1 + i) (slots + 30 + i * 3) := by
  induction i with
  | zero =>
    have h := X.pushed (arrV cA 30 (tmR T.heap.size 0))
    rw [arrV_size] at h
    simpa [tmF] using h
  | succ i ih =>
    obtain ⟨f1, f2, f3, f4⟩ := tmF_facts cA d T i
    have hlt : T.heap.size < (tmF cA d T i).heap.size := by omega
    have hc : ((tmF cA d T i).pushCell (arrV d 3 (fun _ => .int 0))).heap[T.heap.size]? = some (arrV cA 30 (tmR T.heap.size i)) := by
      rw [State.heap_pushCell_of_lt (h := hlt)]
      exact f2
    have h := (ih.pushed (arrV d 3 (fun _ => .int 0))).stored hc i (.ref (T.heap.size + 1 + i))
    rw [arrV_size, arrV_store, tmR_up] at h
    have e2 : (locs ++ (List.range (i + 1)).map fun j => (⟨T.heap.size, j⟩ : Loc)) = (locs ++ (List.range i).map fun j => (⟨T.heap.size, j⟩ : Loc)) ++ [⟨T.heap.size, i⟩] := by simp [List.range_succ, List.append_assoc]
    have e3 : slots + 30 + (i + 1) * 3 = slots + 30 + i * 3 + 3 := by omega
    rw [e2, e3]
    exact h
theorem tNew_D (M : Nat → Nat → Int32) (hP : va_P D vwCl (wTS B G S) H) (hD : va_D A (wTS B G S)) (hA : ∀ q : Nat, H.size ≤ q → A q) : va_D A (wLw B G (fun i => H.size + i) S M) := by
  have em : (wTo G (fun i => H.size + i) M).map Prod.fst = (H.size + 0) :: (List.range 30).map (fun i => H.size + (i + 1)) := by
    show _ :: ((List.range 30).map _).map Prod.fst = _
    rw [List.map_map]
    rfl
  have hge : ∀ x ∈ (wTo G (fun i => H.size + i) M).map Prod.fst, H.size ≤ x := by
    intro x hx
    rw [em] at hx
    rcases List.mem_cons.mp hx with rfl | hx
    · exact Nat.le_refl _
    · obtain ⟨j, -, rfl⟩ := List.mem_map.mp hx
      exact Nat.le_add_right _ _
  refine jDnd.mpr ⟨?_, ?_⟩
  · rw [List.map_append, List.nodup_append]
    refine ⟨(jDnd.mp hD).1, ?_, ?_⟩
    · rw [em, List.nodup_cons]
      refine ⟨?_, ?_⟩
      · intro h
        obtain ⟨j, -, hj⟩ := List.mem_map.mp h
        omega
      · exact List.pairwise_map.mpr (List.nodup_range.imp (fun h e => h (by omega)))
    · intro a ha b hb hab
      obtain ⟨q, hq, rfl⟩ := List.mem_map.mp ha
      have h1 := (jMemP.mp hP q hq).lt
      have h2 := hge b hb
      omega
  · intro q hq
    rcases List.mem_append.mp hq with h | h
    · exact (jDnd.mp hD).2 q h
    · exact hA _ (hge _ (List.mem_map.mpr ⟨q, h, rfl⟩))
/-- new int[30][3] -/
theorem tNewM (C : Cx p s m args meth c cc nL own ret D G) {index : Nat} (hcl : Cond.classLink own index "[[I" ∈ jw) (hov : (Cond.arrayOver (.array .int)).before args s = true) (hP : va_P D vwCl (wTS B G S) H) (hD : va_D A (wTS B G S)) (hS : va_S A s.heap H locs) (hA : ∀ q : Nat, s.heap.size ≤ q → A q)
    (hcells : cells + 31 ≤ R.cells) (hslots : slots + 120 ≤ R.slots) (hdg : decode cc pc = .ok (.multianewarray index 2, 4))
    (kk : ∀ (tA : Nat → Nat) (H1 : Heap) (locs1 : List Loc), va_P D vwCl (wLw B G tA S (fun _ _ => 0)) H1 → va_D A (wLw B G tA S (fun _ _ => 0)) → va_S A s.heap H1 locs1 → W p l e R s m args below meth c H1 locs1 (cells + 31) (slots + 120) Q (F0 m (pc + 4) ls (.ref (tA 0) :: rest))) : W p l e R s m args below meth c H locs cells slots Q (F0 m pc ls (.int 3 :: .int 30 :: rest)) := by
  obtain ⟨hexec, hb, hr, hml, hts, hown, hlocks, hK0⟩ := id C
  have hK := hK0.1
  intro T hT X
  subst hb
  subst hT
  have hpl : e.platform.magicAccessors = ({} : Platform).magicAccessors := by rw [X.admits.platform]
  obtain ⟨d, cA, kA, hd, hkA, hkindA, hnA⟩ := tm_over hov
  obtain ⟨kD, o2, hkD, hkindD⟩ : ∃ (k : Class) (o2 : ClassId), s.vm.classes[d]? = some k ∧ k.kind = .array o2 .int := by
    obtain ⟨h1, h2⟩ := hK.2 0 _ rfl
    obtain ⟨-, k, hk, o2, hk2⟩ := h1 0 (fun _ => .int 0)
    have h3 : s.vm.findClass ("[" ++ FieldType.int.toString) = some (G 0) := h2
    have h4 : d = G 0 := Option.some.inj (hd.symm.trans h3)
    exact ⟨k, o2, by rw [h4]; exact hk, hk2⟩
  have ed : d = G 0 := by
    have h2 : s.vm.findClass ("[" ++ FieldType.int.toString) = some (G 0) := (hK.2 0 _ rfl).2
    exact Option.some.inj (hd.symm.trans h2)
  have eA : cA = G 3 := by
    have h2 : s.vm.findClass ("[" ++ (FieldType.array .int).toString) = some (G 3) := (hK.2 3 _ rfl).2
    exact Option.some.inj (hnA.symm.trans h2)
  obtain ⟨c0, hfc0, hlk⟩ := Cond.classLink_spec hown (hts _ hcl) e.platform hpl
  have ec0 : c0 = cA := Option.some.inj (hfc0.symm.trans hnA)
  subst ec0
  obtain ⟨hg1, hwarm1, -⟩ := State.classEntry (e := e) X.warmed hlk
  generalize T.vm.noted m.cls index (.cls c0) = vm1 at hg1 hwarm1
  have hal : s.vm.Alike vm1 := hwarm1.alike
  obtain ⟨kA1, hkA1, heA⟩ := hal.2.2 _ _ hkA
  obtain ⟨kD1, hkD1, heD⟩ := hal.2.2 _ _ hkD
  have hkindA1 : kA1.kind = .array d (.array .int) := by rw [heA]; exact hkindA
  have hkindD1 : kD1.kind = .array o2 .int := by rw [heD]; exact hkindD
  have X1 := X.noted hwarm1
  obtain ⟨hr1, hr2⟩ := X.roomAbove hcells hslots
  have XF : Stand p l e R s m args below meth c (tmF c0 d (T.setVm vm1) 30) (locs ++ (List.range 30).map fun j => ⟨T.heap.size, j⟩) (cells + 31) (slots + 120) := by
    have h := tm_stand X1 c0 d 30
    have e1 : cells + 1 + 30 = cells + 31 := by omega
    have e2 : slots + 30 + 30 * 3 = slots + 120 := by omega
    rw [e1, e2] at h
    exact h
  obtain ⟨f1, f2, f3, f4⟩ := tmF_facts c0 d (T.setVm vm1) 30
  have hold : ∀ a : Nat, a < T.heap.size → (tmF c0 d (T.setVm vm1) 30).heap[a]? = T.heap[a]? := fun a ha => tmF_old c0 d (T.setVm vm1) ha 30
  have hrow : ∀ j : Nat, j < 30 → (tmF c0 d (T.setVm vm1) 30).heap[T.heap.size + 1 + j]? = some (arrV d 3 (fun _ => .int 0)) := fun j hj => tmF_row c0 d (T.setVm vm1) 30 j hj
  have hout : (tmF c0 d (T.setVm vm1) 30).heap[T.heap.size]? = some (arrV c0 30 (tmR T.heap.size 30)) := f2
  have hsz : (tmF c0 d (T.setVm vm1) 30).heap.size = T.heap.size + 31 := f1
  have hAH : ∀ q : Nat, T.heap.size ≤ q → A q := fun q hq => hA q (Nat.le_trans hS.1 hq)
  have hP2 : va_P D vwCl (wLw B G (fun i => T.heap.size + i) S (fun _ _ => 0)) (tmF c0 d (T.setVm vm1) 30).heap := by
    refine jMemP.mpr (fun q hq => ?_)
    rcases List.mem_append.mp hq with h | h
    · have h1 := jMemP.mp hP q h
      exact h1.kept (hold q.1 h1.lt)
    · rcases List.mem_cons.mp h with rfl | h
      · show _ = some (vp_cell _ _)
        rw [vp_cell_q, ← eA]
        refine hout.trans (congrArg some ?_)
        unfold arrV
        congr 1
      · obtain ⟨j, hj, rfl⟩ := List.mem_map.mp h
        have hj := List.mem_range.mp hj
        show (tmF c0 d (T.setVm vm1) 30).heap[T.heap.size + (j + 1)]? = some (vp_cell _ _)
        rw [vp_cell_i, ← ed, show T.heap.size + (j + 1) = T.heap.size + 1 + j by omega]
        exact hrow j hj
  have hS2 : va_S A s.heap (tmF c0 d (T.setVm vm1) 30).heap (locs ++ (List.range 30).map fun j => ⟨T.heap.size, j⟩) := by
    refine ⟨Nat.le_trans hS.1 (by omega), fun q h1 h2 => (hold q (Nat.lt_of_lt_of_le h1 hS.1)).trans (hS.2.1 q h1 h2), fun q hq => ?_⟩
    rcases List.mem_append.mp hq with h | h
    · exact hS.2.2 q h
    · obtain ⟨j, -, rfl⟩ := List.mem_map.mp h
      exact hAH _ (Nat.le_refl _)
  obtain ⟨t, a1, b1⟩ := kk (fun i => T.heap.size + i) _ _ hP2 (tNew_D _ hP hD hAH) hS2 _ rfl XF
  refine ⟨t, ?_, b1⟩
  have hl1 : ¬ 30 > e.platform.arrayLengthLimit := by rw [Launch.admits_arrayLengthLimit X.admits]; omega
  have hh1 : ¬ 30 * componentBytes (.array .int) > e.platform.maxHeapBytes := by
    rw [Launch.admits_maxHeapBytes X.admits]
    show ¬ 30 * 4 > 536870912
    omega
  have hl2 : ¬ 3 > e.platform.arrayLengthLimit := by rw [Launch.admits_arrayLengthLimit X.admits]; omega
  have hh2 : ¬ 3 * componentBytes .int > e.platform.maxHeapBytes := by
    rw [Launch.admits_maxHeapBytes X.admits]
    show ¬ 3 * 4 > 536870912
    omega
  generalize hg : F0 m pc ls (.int 3 :: .int 30 :: rest) = g at X1
  have hgm : g.method = m := by rw [← hg]
  have hgs : g.stack = .int 3 :: .int 30 :: rest := by rw [← hg]
  have hgd : decode c.code g.pc = .ok (.multianewarray index 2, 4) := by rw [← hg]; exact hdg
  have hgn : F0 m (pc + 4) ls (.ref (T.heap.size + 0) :: rest) = { g with pc := g.pc + 4, stack := .ref T.heap.size :: rest } := by rw [← hg]; rfl
  have a2 : Steps p.tables e below ((tmF c0 d (T.setVm vm1) 30).setTop { g with pc := g.pc + 4, stack := .ref T.heap.size :: rest }) t := by rw [← hgn]; exact a1
  subst hgm
  jvm_step X.here [hexec, hgd]
  simp only [multianewarray.sem, wp_bind', W.resolveClassAt_links (State.method?_setTop g X.here.top) hg1]
  rw [W.popN, if_neg (by decide)]
  refine ⟨g, State.topJava?_setTop' (s := T.setVm vm1) g X.here.top, [.int 30, .int 3], rest, rfl, hgs, ?_⟩
  simp only [List.mapM_cons, List.mapM_nil, wp_bind', wp_pure']
  refine tm_all (k := kA1) (k2 := kD1) (o := d) (o2 := o2) hkA1 hkindA1 hkD1 hkindD1 hl1 hh1 hl2 hh2 (by show T.heap.size + 31 ≤ _; omega) (by show T.slotsUsed + 120 ≤ _; omega) (fun d' acts' => ?_)
  have eS : ((T.setTop g).setVm vm1).setTop { g with stack := rest } = (T.setVm vm1).setTop { g with stack := rest } := by
    show ((T.setVm vm1).setTop g).setTop _ = _
    rw [State.setTop_setTop]
  rw [eS, tmF_top]
  simp only [wp_bind', W.mark, W.pushRef, State.topJava?_setTop' _ XF.here.top, Option.some.injEq, exists_eq_left', State.setTop_setTop, State.heap_setTop]
  intro acts
  simp [jvm, XF.here.top]
  exact a2
end TN
