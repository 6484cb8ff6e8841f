def jnw : List Cond := [.fieldLinkNest RX6 110 "TheatreSeasons$Productions" "count" "I" "TheatreSeasons", .fieldLinkNest RX8 259 "TheatreSeasons$Productions" "count" "I" "TheatreSeasons", .fieldLinkNest RX8 88 "TheatreSeasons$Productions" "sizes" "LTheatreSeasons$Row;" "TheatreSeasons", .fieldLinkNest RX8 91 "TheatreSeasons$Productions" "crews" "LTheatreSeasons$Row;" "TheatreSeasons", .fieldLinkNest RX8 94 "TheatreSeasons$Productions" "prices" "LTheatreSeasons$Row;" "TheatreSeasons", .fieldLinkNest RX6 202 "TheatreSeasons$Productions" "prices" "LTheatreSeasons$Row;" "TheatreSeasons", .fieldLinkNest RX8 97 "TheatreSeasons$Productions" "shares" "LTheatreSeasons$Row;" "TheatreSeasons", .fieldLinkNest RX8 79 "TheatreSeasons$Productions" "dates" "LTheatreSeasons$Row;" "TheatreSeasons", .fieldLinkNest RX6 124 "TheatreSeasons$Productions" "dates" "LTheatreSeasons$Row;" "TheatreSeasons", .fieldLinkNest RX6 83 "TheatreSeasons$Performances" "count" "I" "TheatreSeasons", .fieldLinkNest RX8 213 "TheatreSeasons$Performances" "count" "I" "TheatreSeasons", .fieldLinkNest RX8 138 "TheatreSeasons$Performances" "productions" "LTheatreSeasons$Row;" "TheatreSeasons", .fieldLinkNest RX6 133 "TheatreSeasons$Performances" "productions" "LTheatreSeasons$Row;" "TheatreSeasons", .fieldLinkNest RX8 140 "TheatreSeasons$Performances" "stages" "LTheatreSeasons$Row;" "TheatreSeasons", .fieldLinkNest RX6 86 "TheatreSeasons$Performances" "stages" "LTheatreSeasons$Row;" "TheatreSeasons", .fieldLinkNest RX6 135 "TheatreSeasons$Performances" "dates" "LTheatreSeasons$Row;" "TheatreSeasons", .fieldLinkNest RX8 143 "TheatreSeasons$Performances" "dates" "LTheatreSeasons$Row;" "TheatreSeasons", .fieldLinkNest RX6 136 "TheatreSeasons$Performances" "sold" "LTheatreSeasons$Row;" "TheatreSeasons", .fieldLinkNest RX6 198 "TheatreSeasons$Performances" "held" "LTheatreSeasons$Row;" "TheatreSeasons", .fieldLinkNest RX8 156 "TheatreSeasons$Performances" "holders" "LTheatreSeasons$Row;" "TheatreSeasons", .fieldLinkNest RX6 168 "TheatreSeasons$Subscriptions" "count" "I" "TheatreSeasons", .fieldLinkNest RX8 260 "TheatreSeasons$Subscriptions" "count" "I" "TheatreSeasons", .fieldLinkNest RX6 172 "TheatreSeasons$Subscriptions" "seats" "LTheatreSeasons$Row;" "TheatreSeasons", .fieldLinkNest RX8 241 "TheatreSeasons$Subscriptions" "seats" "LTheatreSeasons$Row;" "TheatreSeasons", .fieldLinkNest RX8 242 "TheatreSeasons$Subscriptions" "exchanges" "LTheatreSeasons$Row;" "TheatreSeasons", .fieldLinkNest RX6 159 "TheatreSeasons$Requests" "count" "I" "TheatreSeasons", .fieldLinkNest RX8 261 "TheatreSeasons$Requests" "count" "I" "TheatreSeasons", .fieldLinkNest RX8 207 "TheatreSeasons$Requests" "seats" "LTheatreSeasons$Row;" "TheatreSeasons", .fieldLinkNest RX8 204 "TheatreSeasons$Requests" "priorities" "LTheatreSeasons$Row;" "TheatreSeasons", .fieldLinkNest RX8 275 "TheatreSeasons$Season" "stageSeats" "LTheatreSeasons$Row;" "TheatreSeasons", .fieldLinkNest RX8 265 "TheatreSeasons$Season" "staff" "I" "TheatreSeasons", .fieldLinkNest RX8 268 "TheatreSeasons$Season" "room" "I" "TheatreSeasons", .fieldLinkNest RX8 65 "TheatreSeasons$Season" "productions" "LTheatreSeasons$Productions;" "TheatreSeasons", .fieldLinkNest RX8 131 "TheatreSeasons$Season" "performances" "LTheatreSeasons$Performances;" "TheatreSeasons", .fieldLinkNest RX8 231 "TheatreSeasons$Season" "subscriptions" "LTheatreSeasons$Subscriptions;" "TheatreSeasons", .fieldLinkNest RX8 147 "TheatreSeasons$Season" "requests" "LTheatreSeasons$Requests;" "TheatreSeasons", .fieldLinkNest RX8 281 "TheatreSeasons$History" "count" "I" "TheatreSeasons", .fieldLinkNest RX8 278 "TheatreSeasons$Input" "length" "I" "TheatreSeasons", .methodLinkNest RX6 29 yX3_init "TheatreSeasons", .methodLinkNest RX6 36 yX2_init "TheatreSeasons", .methodLinkNest RX6 43 yX7_init "TheatreSeasons", .methodLinkNest RX6 50 yX4_init "TheatreSeasons", .methodLinkNest RX8 28 yX1_init "TheatreSeasons", .methodLinkNest RX3 36 yX8_isWithin "TheatreSeasons", .methodLinkNest RX2 39 yX8_isWithin "TheatreSeasons", .methodLinkNest RX2 54 yX8_isInSet "TheatreSeasons", .methodLinkNest RX7 27 yX8_isWithin "TheatreSeasons", .methodLinkNest RX6 79 yX8_isWithin "TheatreSeasons", .methodLinkNest RX6 75 yX8_isStage "TheatreSeasons", .methodLinkNest RX6 118 yX8_isDate "TheatreSeasons", .methodLinkNest RX6 96 yX8_refusal "TheatreSeasons", .methodLinkNest RX3 62 yX8_isInSet "TheatreSeasons", .methodLinkNest RX3 68 yX8_refusal "TheatreSeasons", .castable "java/lang/IndexOutOfBoundsException" "java/lang/IndexOutOfBoundsException", .castable "java/lang/IllegalArgumentException" "java/lang/IllegalArgumentException", .castable "java/lang/IllegalStateException" "java/lang/IllegalStateException", .castable "java/lang/UnsupportedOperationException" "java/lang/UnsupportedOperationException", .castable "java/util/NoSuchElementException" "java/util/NoSuchElementException", .castable "java/lang/ArithmeticException" "java/lang/ArithmeticException", .declares ⟨"java/lang/RuntimeException", "<init>", "(Ljava/lang/String;)V"⟩, .declares ⟨"java/lang/Exception", "<init>", "(Ljava/lang/String;)V"⟩, .declares ⟨"java/lang/Throwable", "<init>", "(Ljava/lang/String;)V"⟩, .arrayOver (.object "TheatreSeasons$Season")]
theorem jn_0 : Cond.fieldLinkNest RX6 110 "TheatreSeasons$Productions" "count" "I" "TheatreSeasons" ∈ jnw := List.mem_of_getElem? (i := 0) rfl
theorem jn_1 : Cond.fieldLinkNest RX8 259 "TheatreSeasons$Productions" "count" "I" "TheatreSeasons" ∈ jnw := List.mem_of_getElem? (i := 1) rfl
theorem jn_2 : Cond.fieldLinkNest RX8 88 "TheatreSeasons$Productions" "sizes" "LTheatreSeasons$Row;" "TheatreSeasons" ∈ jnw := List.mem_of_getElem? (i := 2) rfl
theorem jn_3 : Cond.fieldLinkNest RX8 91 "TheatreSeasons$Productions" "crews" "LTheatreSeasons$Row;" "TheatreSeasons" ∈ jnw := List.mem_of_getElem? (i := 3) rfl
theorem jn_4 : Cond.fieldLinkNest RX8 94 "TheatreSeasons$Productions" "prices" "LTheatreSeasons$Row;" "TheatreSeasons" ∈ jnw := List.mem_of_getElem? (i := 4) rfl
theorem jn_5 : Cond.fieldLinkNest RX6 202 "TheatreSeasons$Productions" "prices" "LTheatreSeasons$Row;" "TheatreSeasons" ∈ jnw := List.mem_of_getElem? (i := 5) rfl
theorem jn_6 : Cond.fieldLinkNest RX8 97 "TheatreSeasons$Productions" "shares" "LTheatreSeasons$Row;" "TheatreSeasons" ∈ jnw := List.mem_of_getElem? (i := 6) rfl
theorem jn_7 : Cond.fieldLinkNest RX8 79 "TheatreSeasons$Productions" "dates" "LTheatreSeasons$Row;" "TheatreSeasons" ∈ jnw := List.mem_of_getElem? (i := 7) rfl
theorem jn_8 : Cond.fieldLinkNest RX6 124 "TheatreSeasons$Productions" "dates" "LTheatreSeasons$Row;" "TheatreSeasons" ∈ jnw := List.mem_of_getElem? (i := 8) rfl
theorem jn_9 : Cond.fieldLinkNest RX6 83 "TheatreSeasons$Performances" "count" "I" "TheatreSeasons" ∈ jnw := List.mem_of_getElem? (i := 9) rfl
theorem jn_10 : Cond.fieldLinkNest RX8 213 "TheatreSeasons$Performances" "count" "I" "TheatreSeasons" ∈ jnw := List.mem_of_getElem? (i := 10) rfl
theorem jn_11 : Cond.fieldLinkNest RX8 138 "TheatreSeasons$Performances" "productions" "LTheatreSeasons$Row;" "TheatreSeasons" ∈ jnw := List.mem_of_getElem? (i := 11) rfl
theorem jn_12 : Cond.fieldLinkNest RX6 133 "TheatreSeasons$Performances" "productions" "LTheatreSeasons$Row;" "TheatreSeasons" ∈ jnw := List.mem_of_getElem? (i := 12) rfl
theorem jn_13 : Cond.fieldLinkNest RX8 140 "TheatreSeasons$Performances" "stages" "LTheatreSeasons$Row;" "TheatreSeasons" ∈ jnw := List.mem_of_getElem? (i := 13) rfl
theorem jn_14 : Cond.fieldLinkNest RX6 86 "TheatreSeasons$Performances" "stages" "LTheatreSeasons$Row;" "TheatreSeasons" ∈ jnw := List.mem_of_getElem? (i := 14) rfl
theorem jn_15 : Cond.fieldLinkNest RX6 135 "TheatreSeasons$Performances" "dates" "LTheatreSeasons$Row;" "TheatreSeasons" ∈ jnw := List.mem_of_getElem? (i := 15) rfl
theorem jn_16 : Cond.fieldLinkNest RX8 143 "TheatreSeasons$Performances" "dates" "LTheatreSeasons$Row;" "TheatreSeasons" ∈ jnw := List.mem_of_getElem? (i := 16) rfl
theorem jn_17 : Cond.fieldLinkNest RX6 136 "TheatreSeasons$Performances" "sold" "LTheatreSeasons$Row;" "TheatreSeasons" ∈ jnw := List.mem_of_getElem? (i := 17) rfl
theorem jn_18 : Cond.fieldLinkNest RX6 198 "TheatreSeasons$Performances" "held" "LTheatreSeasons$Row;" "TheatreSeasons" ∈ jnw := List.mem_of_getElem? (i := 18) rfl
theorem jn_19 : Cond.fieldLinkNest RX8 156 "TheatreSeasons$Performances" "holders" "LTheatreSeasons$Row;" "TheatreSeasons" ∈ jnw := List.mem_of_getElem? (i := 19) rfl
theorem jn_20 : Cond.fieldLinkNest RX6 168 "TheatreSeasons$Subscriptions" "count" "I" "TheatreSeasons" ∈ jnw := List.mem_of_getElem? (i := 20) rfl
theorem jn_21 : Cond.fieldLinkNest RX8 260 "TheatreSeasons$Subscriptions" "count" "I" "TheatreSeasons" ∈ jnw := List.mem_of_getElem? (i := 21) rfl
theorem jn_22 : Cond.fieldLinkNest RX6 172 "TheatreSeasons$Subscriptions" "seats" "LTheatreSeasons$Row;" "TheatreSeasons" ∈ jnw := List.mem_of_getElem? (i := 22) rfl
theorem jn_23 : Cond.fieldLinkNest RX8 241 "TheatreSeasons$Subscriptions" "seats" "LTheatreSeasons$Row;" "TheatreSeasons" ∈ jnw := List.mem_of_getElem? (i := 23) rfl
theorem jn_24 : Cond.fieldLinkNest RX8 242 "TheatreSeasons$Subscriptions" "exchanges" "LTheatreSeasons$Row;" "TheatreSeasons" ∈ jnw := List.mem_of_getElem? (i := 24) rfl
theorem jn_25 : Cond.fieldLinkNest RX6 159 "TheatreSeasons$Requests" "count" "I" "TheatreSeasons" ∈ jnw := List.mem_of_getElem? (i := 25) rfl
theorem jn_26 : Cond.fieldLinkNest RX8 261 "TheatreSeasons$Requests" "count" "I" "TheatreSeasons" ∈ jnw := List.mem_of_getElem? (i := 26) rfl
theorem jn_27 : Cond.fieldLinkNest RX8 207 "TheatreSeasons$Requests" "seats" "LTheatreSeasons$Row;" "TheatreSeasons" ∈ jnw := List.mem_of_getElem? (i := 27) rfl
theorem jn_28 : Cond.fieldLinkNest RX8 204 "TheatreSeasons$Requests" "priorities" "LTheatreSeasons$Row;" "TheatreSeasons" ∈ jnw := List.mem_of_getElem? (i := 28) rfl
theorem jn_29 : Cond.fieldLinkNest RX8 275 "TheatreSeasons$Season" "stageSeats" "LTheatreSeasons$Row;" "TheatreSeasons" ∈ jnw := List.mem_of_getElem? (i := 29) rfl
theorem jn_30 : Cond.fieldLinkNest RX8 265 "TheatreSeasons$Season" "staff" "I" "TheatreSeasons" ∈ jnw := List.mem_of_getElem? (i := 30) rfl
theorem jn_31 : Cond.fieldLinkNest RX8 268 "TheatreSeasons$Season" "room" "I" "TheatreSeasons" ∈ jnw := List.mem_of_getElem? (i := 31) rfl
theorem jn_32 : Cond.fieldLinkNest RX8 65 "TheatreSeasons$Season" "productions" "LTheatreSeasons$Productions;" "TheatreSeasons" ∈ jnw := List.mem_of_getElem? (i := 32) rfl
theorem jn_33 : Cond.fieldLinkNest RX8 131 "TheatreSeasons$Season" "performances" "LTheatreSeasons$Performances;" "TheatreSeasons" ∈ jnw := List.mem_of_getElem? (i := 33) rfl
theorem jn_34 : Cond.fieldLinkNest RX8 231 "TheatreSeasons$Season" "subscriptions" "LTheatreSeasons$Subscriptions;" "TheatreSeasons" ∈ jnw := List.mem_of_getElem? (i := 34) rfl
theorem jn_35 : Cond.fieldLinkNest RX8 147 "TheatreSeasons$Season" "requests" "LTheatreSeasons$Requests;" "TheatreSeasons" ∈ jnw := List.mem_of_getElem? (i := 35) rfl
theorem jn_36 : Cond.fieldLinkNest RX8 281 "TheatreSeasons$History" "count" "I" "TheatreSeasons" ∈ jnw := List.mem_of_getElem? (i := 36) rfl
theorem jn_37 : Cond.fieldLinkNest RX8 278 "TheatreSeasons$Input" "length" "I" "TheatreSeasons" ∈ jnw := List.mem_of_getElem? (i := 37) rfl
theorem jn_38 : Cond.methodLinkNest RX6 29 yX3_init "TheatreSeasons" ∈ jnw := List.mem_of_getElem? (i := 38) rfl
theorem jn_39 : Cond.methodLinkNest RX6 36 yX2_init "TheatreSeasons" ∈ jnw := List.mem_of_getElem? (i := 39) rfl
theorem jn_40 : Cond.methodLinkNest RX6 43 yX7_init "TheatreSeasons" ∈ jnw := List.mem_of_getElem? (i := 40) rfl
theorem jn_41 : Cond.methodLinkNest RX6 50 yX4_init "TheatreSeasons" ∈ jnw := List.mem_of_getElem? (i := 41) rfl
theorem jn_42 : Cond.methodLinkNest RX8 28 yX1_init "TheatreSeasons" ∈ jnw := List.mem_of_getElem? (i := 42) rfl
theorem jn_43 : Cond.methodLinkNest RX3 36 yX8_isWithin "TheatreSeasons" ∈ jnw := List.mem_of_getElem? (i := 43) rfl
theorem jn_44 : Cond.methodLinkNest RX2 39 yX8_isWithin "TheatreSeasons" ∈ jnw := List.mem_of_getElem? (i := 44) rfl
theorem jn_45 : Cond.methodLinkNest RX2 54 yX8_isInSet "TheatreSeasons" ∈ jnw := List.mem_of_getElem? (i := 45) rfl
theorem jn_46 : Cond.methodLinkNest RX7 27 yX8_isWithin "TheatreSeasons" ∈ jnw := List.mem_of_getElem? (i := 46) rfl
theorem jn_47 : Cond.methodLinkNest RX6 79 yX8_isWithin "TheatreSeasons" ∈ jnw := List.mem_of_getElem? (i := 47) rfl
theorem jn_48 : Cond.methodLinkNest RX6 75 yX8_isStage "TheatreSeasons" ∈ jnw := List.mem_of_getElem? (i := 48) rfl
theorem jn_49 : Cond.methodLinkNest RX6 118 yX8_isDate "TheatreSeasons" ∈ jnw := List.mem_of_getElem? (i := 49) rfl
theorem jn_50 : Cond.methodLinkNest RX6 96 yX8_refusal "TheatreSeasons" ∈ jnw := List.mem_of_getElem? (i := 50) rfl
theorem jn_51 : Cond.methodLinkNest RX3 62 yX8_isInSet "TheatreSeasons" ∈ jnw := List.mem_of_getElem? (i := 51) rfl
theorem jn_52 : Cond.methodLinkNest RX3 68 yX8_refusal "TheatreSeasons" ∈ jnw := List.mem_of_getElem? (i := 52) rfl
theorem jn_53 : Cond.castable "java/lang/IndexOutOfBoundsException" "java/lang/IndexOutOfBoundsException" ∈ jnw := List.mem_of_getElem? (i := 53) rfl
theorem jn_54 : Cond.castable "java/lang/IllegalArgumentException" "java/lang/IllegalArgumentException" ∈ jnw := List.mem_of_getElem? (i := 54) rfl
theorem jn_55 : Cond.castable "java/lang/IllegalStateException" "java/lang/IllegalStateException" ∈ jnw := List.mem_of_getElem? (i := 55) rfl
theorem jn_56 : Cond.castable "java/lang/UnsupportedOperationException" "java/lang/UnsupportedOperationException" ∈ jnw := List.mem_of_getElem? (i := 56) rfl
theorem jn_57 : Cond.castable "java/util/NoSuchElementException" "java/util/NoSuchElementException" ∈ jnw := List.mem_of_getElem? (i := 57) rfl
theorem jn_58 : Cond.castable "java/lang/ArithmeticException" "java/lang/ArithmeticException" ∈ jnw := List.mem_of_getElem? (i := 58) rfl
theorem jn_59 : Cond.declares ⟨"java/lang/RuntimeException", "<init>", "(Ljava/lang/String;)V"⟩ ∈ jnw := List.mem_of_getElem? (i := 59) rfl
theorem jn_60 : Cond.declares ⟨"java/lang/Exception", "<init>", "(Ljava/lang/String;)V"⟩ ∈ jnw := List.mem_of_getElem? (i := 60) rfl
theorem jn_61 : Cond.declares ⟨"java/lang/Throwable", "<init>", "(Ljava/lang/String;)V"⟩ ∈ jnw := List.mem_of_getElem? (i := 61) rfl
theorem jn_62 : Cond.arrayOver (.object "TheatreSeasons$Season") ∈ jnw := List.mem_of_getElem? (i := 62) rfl
def jNest : Cond → Bool
  | .fieldLinkNest _ _ _ _ _ _ => true
  | .methodLinkNest _ _ _ _ => true
  | .castable _ _ => true
  | .declares _ => true
  | .arrayOver (.object _) => true
  | _ => false
theorem jnw_nest : jnw.all jNest = true := by decide +kernel
def jN (U : State) : Prop := ∀ w ∈ jnw, va_Nw w U
theorem jN.warm {s U : State} (hW : s.WarmedH U.vm) (h : jN s) : jN U := by
  intro w hw
  have h1 := List.all_eq_true.mp jnw_nest w hw
  have h2 := h w hw
  cases w <;> first | exact va_Nw.warmF hW h2 | exact va_Nw.warmM hW h2 | exact va_Nw.warmC hW h2 | exact va_Nw.warmD hW h2 | (simp [jNest] at h1; done) | (rename_i ty; cases ty <;> first | exact va_AO.moved hW.alike h2 | (simp [jNest] at h1; done))
/-- the arrays' classes: ints, chars, seasons, longs, doubles -/
abbrev jT (G : Nat → ClassId) : List (ClassId × FieldType) := [(G 0, .int), (G 1, .char), (G 2, .object "TheatreSeasons$Season"), (G 3, .array .int)]
def jK (D : va_G) (G : Nat → ClassId) (U : State) : Prop := va_K D vwCl (jT G) U ∧ jN U
theorem jK.warm {D : va_G} {G : Nat → ClassId} {s U : State} (hW : s.WarmedH U.vm) (h : jK D G s) : jK D G U := ⟨va_K.moved hW.alike h.1, h.2.warm hW⟩
theorem jK.blind {D : va_G} {G : Nat → ClassId} {U : State} {g : JFrame} {mk : MethodId} {a : Array Value} (h : jK D G U) : jK D G (U.calling g mk a) :=
  ⟨va_K.moved (u := U) (U := U.calling g mk a) (Vm.Alike.refl U.vm) h.1, fun w hw => by
    have h1 := List.all_eq_true.mp jnw_nest w hw
    have h2 := h.2 w hw
    have e : U.vm = (U.calling g mk a).vm := rfl
    cases w <;> first | exact va_Nw.same rfl e h2 | (simp [jNest] at h1; done) | (rename_i ty; cases ty <;> first | exact va_AO.moved (Vm.Alike.refl U.vm) h2 | (simp [jNest] at h1; done))⟩
/-- what holds all the way through a method's body -/
def Cx (p : Program) (s : State) (m : MethodId) (args : Array Value) (meth : Method) (c : Code) (cc : ByteArray) (nL : Nat) (own : String) (ret : Option FieldType) (D : va_G) (G : Nat → ClassId) : Prop :=
  p.tables.exec = Jvm.exec ∧ c.code = cc ∧ meth.sig.returnType = ret ∧ c.maxLocals = nL ∧ (∀ w ∈ jw, w.before args s = true) ∧ s.vm.findClass own = some m.cls ∧ meth.locks = false ∧ jK D G s
abbrev jws (y : MethodName) (cc : ByteArray) (maxL : Nat) (ret : Option FieldType) : List Cond := Cond.code y cc maxL ret :: jw
def QcRd (ov : Option Value) : Array Value → State → Outcome → State → Prop := fun _ st o t => o = .returned ov ∧ t.heap = st.heap
def nofree : Addr → Prop := fun _ => False
/-- a method that only reads: the world w, the answer ov -/
def pM (l : Launch) (y : MethodName) (ws : List Cond) (rm : Room) (As : List Value) (D : va_G) (G : Nat → ClassId) (w : va_W) (ov : Option Value) : Prop :=
  Met l y ws rm (va_Pc As (fun U => va_P D vwCl w U.heap ∧ jK D G U)) (QcRd ov) 0 0 nofree
def mQ (D : va_G) (w' : va_W) (ov : Option Value) (A : Nat → Prop) : Array Value → State → Outcome → State → Prop := fun _ st oc t => oc = .returned ov ∧ va_P D vwCl w' t.heap ∧ va_F A st t
/-- a method that writes: the world w becomes w' -/
def mM (l : Launch) (y : MethodName) (ws : List Cond) (rm : Room) (As : List Value) (D : va_G) (G : Nat → ClassId) (w w' : va_W) (ov : Option Value) : Prop :=
  ∀ sz : Nat, Met l y ws rm (va_Pc As (fun U => U.heap.size = sz ∧ va_P D vwCl w U.heap ∧ jK D G U ∧ va_D (fun _ => True) w)) (mQ D w' ov (va_A w sz)) 0 0 (va_A w sz)
theorem pM_of {l : Launch} {y : MethodName} {cc : ByteArray} {maxL : Nat} {ret : Option FieldType} {rm : Room} {As : List Value} {D : va_G} {G : Nat → ClassId} {w : va_W} {ov : Option Value} (hy : plainName y.cls = true) (hlen : (lg_sl As).length ≤ maxL)
    (body : ∀ (p : Program) (e : Env) (s : State) (m : MethodId) (args : Array Value) (below : List Frame) (meth : Method) (c : Code) (ls : Array Slot), Cx p s m args meth c cc maxL y.cls ret D G → va_P D vwCl w s.heap → lv_has ls maxL (lv_args 0 As) → W p l e rm s m args below meth c s.heap [] 0 0 (MQ below (QcRd ov) args s 0 0 nofree) (F0 m 0 ls [])) :
    pM l y (jws y cc maxL ret) rm As D G w ov := by
  refine Met.ofW (cc := cc) (maxL := maxL) (ret := ret) hy rfl ?_
  intro p e s m args below meth c s₁ B hml hv
  obtain ⟨rfl, hP, hK⟩ := hv
  have hts := atoms_spec (ws := jws y cc maxL ret) B.pre
  rw [lg_entry_eq]
  exact body p e s m _ below meth c _ ⟨B.exec, B.bytes, B.returns, hml, fun w h => hts w (List.mem_cons_of_mem _ h), findClass_of_methodNamed B.named, B.notSynchronized, hK⟩ hP (lv_entry As hlen)
theorem mM_of {l : Launch} {y : MethodName} {cc : ByteArray} {maxL : Nat} {ret : Option FieldType} {rm : Room} {As : List Value} {D : va_G} {G : Nat → ClassId} {w w' : va_W} {ov : Option Value} (hy : plainName y.cls = true) (hlen : (lg_sl As).length ≤ maxL)
    (body : ∀ (p : Program) (e : Env) (s : State) (m : MethodId) (args : Array Value) (below : List Frame) (meth : Method) (c : Code) (ls : Array Slot) (A : Nat → Prop), Cx p s m args meth c cc maxL y.cls ret D G → va_P D vwCl w s.heap → va_D A w → (∀ q : Nat, s.heap.size ≤ q → A q) → lv_has ls maxL (lv_args 0 As) → W p l e rm s m args below meth c s.heap [] 0 0 (MQ below (mQ D w' ov A) args s 0 0 A) (F0 m 0 ls [])) :
    mM l y (jws y cc maxL ret) rm As D G w w' ov := by
  intro sz
  refine Met.ofW (cc := cc) (maxL := maxL) (ret := ret) hy rfl ?_
  intro p e s m args below meth c s₁ B hml hv
  obtain ⟨rfl, hsz, hP, hK, hD0⟩ := hv
  have hts := atoms_spec (ws := jws y cc maxL ret) B.pre
  subst hsz
  rw [lg_entry_eq]
  exact body p e s m _ below meth c _ (va_A w s.heap.size) ⟨B.exec, B.bytes, B.returns, hml, fun w h => hts w (List.mem_cons_of_mem _ h), findClass_of_methodNamed B.named, B.notSynchronized, hK⟩ hP hD0.self (fun q h => Or.inr h) (lv_entry As hlen)
section JR
variable {p : Program} {l : Launch} {e : Env} {R : Room} {s : State} {m : MethodId} {args : Array Value} {below : List Frame} {meth : Method} {c : Code} {H : Heap} {locs : List Loc} {Q : State → Prop} {cc : ByteArray} {nL : Nat} {own : String} {ret : Option FieldType} {D : va_G} {G : Nat → ClassId} {pc : Nat} {ls : Array Slot} {A : Nat → Prop} {w w' : va_W}
theorem pRet (C : Cx p s m args meth c cc nL own ret D G) {ty : FieldType} (ht : ret = some ty) (hdg : decode cc pc = .ok (.ireturn, 1)) {v r : Int32} (hn : narrow ty (.int v) = .int v) (hv : v = r) :
    W p l e R s m args below meth c s.heap [] 0 0 (MQ below (QcRd (some (.int r))) args s 0 0 nofree) (F0 m pc ls [.int v]) := by
  obtain ⟨hx, hb, hr, -, -, -, hlocks, -⟩ := C
  subst hv; subst ht
  exact W.zret hx hb hr hn (fun t ht _ => ⟨rfl, ht⟩) (fun q h => nomatch h) hdg hlocks
theorem pRetV (C : Cx p s m args meth c cc nL own none D G) (hdg : decode cc pc = .ok (.return_, 1)) :
    W p l e R s m args below meth c s.heap [] 0 0 (MQ below (QcRd none) args s 0 0 nofree) (F0 m pc ls []) := by
  obtain ⟨hx, hb, hr, -, -, -, hlocks, -⟩ := C
  exact W.vret hx hb hr (fun t ht _ => ⟨rfl, ht⟩) (fun q h => nomatch h) hdg hlocks
theorem mRet (C : Cx p s m args meth c cc nL own ret D G) {ty : FieldType} (ht : ret = some ty) (hdg : decode cc pc = .ok (.ireturn, 1)) {v r : Int32} (hn : narrow ty (.int v) = .int v) (hv : v = r) (hP : va_P D vwCl w' H) (hS : va_S A s.heap H locs) :
    W p l e R s m args below meth c H locs 0 0 (MQ below (mQ D w' (some (.int r)) A) args s 0 0 A) (F0 m pc ls [.int v]) := by
  obtain ⟨hx, hb, hr, -, -, -, hlocks, -⟩ := C
  subst hv; subst ht
  exact W.zret hx hb hr hn (fun t ht _ => ⟨rfl, by rw [ht]; exact hP, hS.F ht⟩) hS.2.2 hdg hlocks
theorem mRetV (C : Cx p s m args meth c cc nL own none D G) (hdg : decode cc pc = .ok (.return_, 1)) (hP : va_P D vwCl w' H) (hS : va_S A s.heap H locs) :
    W p l e R s m args below meth c H locs 0 0 (MQ below (mQ D w' none A) args s 0 0 A) (F0 m pc ls []) := by
  obtain ⟨hx, hb, hr, -, -, -, hlocks, -⟩ := C
  exact W.vret hx hb hr (fun t ht _ => ⟨rfl, by rw [ht]; exact hP, hS.F ht⟩) hS.2.2 hdg hlocks
end JR
/-- the words of a method that is called: its class, its parameters, its code among the words -/
def jY (y : MethodName) (cc : ByteArray) (maxL : Nat) (ret : Option FieldType) (n : Nat) : Prop :=
  (y.cls ≠ "java/lang/invoke/MethodHandle" ∧ y.cls ≠ "java/lang/invoke/VarHandle" ∧ (parseMethodDescriptor y.desc).map (fun d => d.parameters.length) = some n) ∧ Cond.code y cc maxL ret ∈ jw ∧ Cond.initialized y.cls ∈ jw
theorem jG {y : MethodName} {cc : ByteArray} {maxL : Nat} {ret : Option FieldType} (h : Cond.code y cc maxL ret ∈ jw) : GoodIn jw (jws y cc maxL ret) := by
  intro w hw
  have hm : w ∈ jw := by
    rcases List.mem_cons.mp hw with rfl | h1
    · exact h
    · exact h1
  exact ⟨hm, good_of_word (List.all_eq_true.mp jw_good w hm)⟩
section JC
variable {p : Program} {l : Launch} {e : Env} {R : Room} {s : State} {m : MethodId} {args : Array Value} {below : List Frame} {meth : Method} {c : Code} {H : Heap} {locs : List Loc} {cells slots : Nat} {Q : State → Prop} {cc : ByteArray} {nL : Nat} {own : String} {ret : Option FieldType} {D : va_G} {G : Nat → ClassId} {pc : Nat} {ls : Array Slot} {A : Nat → Prop} {w w' : va_W}
  {y : MethodName} {bytes : ByteArray} {maxL index : Nat} {rt : Option FieldType} {rm : Room} {As rest st0 : List Value} {ov : Option Value} {b : Nat}
/-- behind a call that only reads -/
theorem jRead {g : JFrame} {args' : Array Value} (hr : va_Run p l e R s m args below meth c H locs cells slots 0 0 g rest (QcRd ov args') nofree) (kk : W p l e R s m args below meth c H locs cells slots Q { g with pc := g.pc + 3, stack := ov.toList ++ rest }) : W p l e R s m args below meth c H locs cells slots Q g := by
  intro T hT X
  obtain ⟨v, st₀, t, T', L, h0, X', hL, e1, e2, ⟨hv, hh⟩, st⟩ := hr T hT X
  cases hv
  have hL0 : L = [] := by
    cases L with
    | nil => rfl
    | cons a L => exact (hL a List.mem_cons_self).elim
  subst hL0
  rw [List.append_nil] at X'
  obtain ⟨t2, a1, b1⟩ := kk T' (by rw [e1, hh, h0]) X'
  exact ⟨t2, st t2 a1, b1⟩
/-- behind a call that writes -/
theorem jWrite {g : JFrame} {args' : Array Value} {A1 : Nat → Prop} (hr : va_Run p l e R s m args below meth c H locs cells slots 0 0 g rest (mQ D w' ov A1 args') A1) (hS : va_S A s.heap H locs) (hA : ∀ q, A1 q → A q)
    (kk : ∀ (H1 : Heap) (locs1 : List Loc), va_P D vwCl w' H1 → H.size ≤ H1.size → (∀ q : Nat, q < H.size → ¬ A1 q → H1[q]? = H[q]?) → va_S A s.heap H1 locs1 → W p l e R s m args below meth c H1 locs1 cells slots Q { g with pc := g.pc + 3, stack := ov.toList ++ rest }) : W p l e R s m args below meth c H locs cells slots Q g := by
  intro T hT X
  obtain ⟨v, st₀, t, T', L, h0, X', hL, e1, e2, ⟨hv, hp, hz, hk⟩, st⟩ := hr T hT X
  cases hv
  rw [h0] at hz hk
  obtain ⟨t2, a1, b1⟩ := kk T'.heap (locs ++ L) (by rw [e1]; exact hp) (by rw [e1]; exact hz) (fun q h1 h2 => by rw [e1]; exact hk q h1 h2)
    ⟨Nat.le_trans hS.1 (by rw [e1]; exact hz), fun q h1 h2 => by rw [e1, hk q (Nat.lt_of_lt_of_le h1 hS.1) (fun z => h2 (hA q z))]; exact hS.2.1 q h1 h2, fun q hq => by
      rcases List.mem_append.mp hq with h | h
      · exact hS.2.2 q h
      · exact hA _ (hL q h)⟩ T' rfl X'
  exact ⟨t2, st t2 a1, b1⟩
abbrev jRoom (rm R : Room) (maxL : Nat) : Prop := rm.cells = 0 ∧ rm.slots = 0 ∧ rm.frames + 1 ≤ R.frames ∧ 8 + (maxL + 11) + rm.locals ≤ R.locals
theorem jCB (C : Cx p s m args meth c cc nL own ret D G) {n : Nat} (hY : jY y bytes maxL rt n) (hl : Cond.methodLink own index y ∈ jw) (hR : jRoom rm R maxL) : CallB R s args own index y bytes maxL rt (jws y bytes maxL rt) rm 0 0 n :=
  callB_of n C.2.2.2.2.1 (jG hY.2.1) rfl hR.1 hR.2.1 (C.2.2.2.2.1 _ hY.2.2) (C.2.2.2.2.1 _ hl) hY.1 hR.2.2
theorem jFix (C : Cx p s m args meth c cc nL own ret D G) : CallFix p m c cc nL s args jw own := ⟨C.1, C.2.1, C.2.2.2.1, C.2.2.2.2.2.1, C.2.2.2.2.1⟩
theorem jRecv (C : Cx p s m args meth c cc nL own ret D G) {ci iw : Nat} {q : vw_C} {fs : List Value} (hP : va_P D vwCl w H) (hc : vwCl[ci]? = some q) (hw : w[iw]? = some (b, .inr (ci, fs))) : ∃ cell : Cell, H[b]? = some cell ∧ cell.vm.isStatics = false ∧ s.vm.findClass q.1 = some cell.cls := va_recv C.2.2.2.2.2.2.2.1 hP hc hw
/-- a virtual call of a reading method -/
theorem jVp (C : Cx p s m args meth c cc nL own ret D G) (hdg : decode cc pc = .ok (.invokevirtual index, 3)) (hM : pM l y (jws y bytes maxL rt) rm (.ref b :: As) D G w ov) (hY : jY y bytes maxL rt As.length) (hl : Cond.methodLink own index y ∈ jw) (hi : Cond.instanceMethod y ∈ jw) (hsel : Cond.selects y.cls y y ∈ jw)
    (hR : jRoom rm R maxL) (hcs : cells ≤ R.cells ∧ slots ≤ R.slots) {ci iw : Nat} {q : vw_C} {fs : List Value} (hP : va_P D vwCl w H) (hc : vwCl[ci]? = some q) (hw : w[iw]? = some (b, .inr (ci, fs))) (hq : q.1 = y.cls) {lv : List (Nat × Value)} (hlv : lv_has ls nL lv) (hst : st0 = As.reverse ++ .ref b :: rest) (hcat : (rest.map fun v => v.category).sum ≤ 8)
    (kk : W p l e R s m args below meth c H locs cells slots Q (F0 m (pc + 3) ls (ov.toList ++ rest))) : W p l e R s m args below meth c H locs cells slots Q (F0 m pc ls st0) := by
  refine jRead (va_runV (rest := rest) (As := As) (b := b) (C := y.cls) (jFix C) hM ⟨jCB C hY hl hR, C.2.2.2.2.1 _ hi, C.2.2.2.2.1 _ hsel⟩ ⟨fun a U g mk q => ⟨q.1, q.2.1, q.2.2.blind⟩, ?_, fun U hU hW => ⟨rfl, by rw [hU]; exact hP, C.2.2.2.2.2.2.2.warm hW⟩⟩ rfl rfl hlv.1 hst (lv_room hcat) hdg ⟨hcs.1, hcs.2⟩) kk
  rw [← hq]
  exact jRecv C hP hc hw
/-- a static call of a reading method -/
theorem jSp (C : Cx p s m args meth c cc nL own ret D G) (hdg : decode cc pc = .ok (.invokestatic index, 3)) (hM : pM l y (jws y bytes maxL rt) rm As D G w ov) (hY : jY y bytes maxL rt As.length) (hl : Cond.methodLink own index y ∈ jw) (hi : Cond.static y ∈ jw)
    (hR : jRoom rm R maxL) (hcs : cells ≤ R.cells ∧ slots ≤ R.slots) (hP : va_P D vwCl w H) {lv : List (Nat × Value)} (hlv : lv_has ls nL lv) (hst : st0 = As.reverse ++ rest) (hcat : (rest.map fun v => v.category).sum ≤ 8)
    (kk : W p l e R s m args below meth c H locs cells slots Q (F0 m (pc + 3) ls (ov.toList ++ rest))) : W p l e R s m args below meth c H locs cells slots Q (F0 m pc ls st0) :=
  jRead (va_runS (rest := rest) (As := As) (jFix C) hM ⟨jCB C hY hl hR, C.2.2.2.2.1 _ hi⟩ ⟨fun a U g mk q => ⟨q.1, q.2.1, q.2.2.blind⟩, fun U hU hW => ⟨rfl, by rw [hU]; exact hP, C.2.2.2.2.2.2.2.warm hW⟩⟩ rfl rfl hlv.1 hst (lv_room hcat) hdg ⟨hcs.1, hcs.2⟩) kk
/-- the same, private in a nest mate -/
theorem jSpN (C : Cx p s m args meth c cc nL own ret D G) (hdg : decode cc pc = .ok (.invokestatic index, 3)) {host : String} (hM : pM l y (jws y bytes maxL rt) rm As D G w ov) (hY : jY y bytes maxL rt As.length) (hl : Cond.methodLinkNest own index y host ∈ jnw) (hi : Cond.static y ∈ jw)
    (hR : jRoom rm R maxL) (hcs : cells ≤ R.cells ∧ slots ≤ R.slots) (hP : va_P D vwCl w H) {lv : List (Nat × Value)} (hlv : lv_has ls nL lv) (hst : st0 = As.reverse ++ rest) (hcat : (rest.map fun v => v.category).sum ≤ 8)
    (kk : W p l e R s m args below meth c H locs cells slots Q (F0 m (pc + 3) ls (ov.toList ++ rest))) : W p l e R s m args below meth c H locs cells slots Q (F0 m pc ls st0) :=
  jRead (va_runSN (rest := rest) (As := As) (host := host) (jFix C) hM ⟨va_cnB As.length C.2.2.2.2.1 (jG hY.2.1) rfl hR.1 hR.2.1 (C.2.2.2.2.2.2.2.2 _ hl) (C.2.2.2.2.1 _ hY.2.2) hY.1 hR.2.2, C.2.2.2.2.1 _ hi, trivial⟩ ⟨fun a U g mk q => ⟨q.1, q.2.1, q.2.2.blind⟩, fun U hU hW => ⟨rfl, by rw [hU]; exact hP, C.2.2.2.2.2.2.2.warm hW⟩⟩ rfl rfl hlv.1 hst (lv_room hcat) hdg ⟨hcs.1, hcs.2⟩) kk
/-- a virtual call of a writing method -/
theorem jVm (C : Cx p s m args meth c cc nL own ret D G) (hdg : decode cc pc = .ok (.invokevirtual index, 3)) (hM : mM l y (jws y bytes maxL rt) rm (.ref b :: As) D G w w' ov) (hY : jY y bytes maxL rt As.length) (hl : Cond.methodLink own index y ∈ jw) (hi : Cond.instanceMethod y ∈ jw) (hsel : Cond.selects y.cls y y ∈ jw)
    (hR : jRoom rm R maxL) (hcs : cells ≤ R.cells ∧ slots ≤ R.slots) {ci iw : Nat} {q : vw_C} {fs : List Value} (hP : va_P D vwCl w H) (hD : va_D A w) (hA : ∀ q : Nat, s.heap.size ≤ q → A q) (hS : va_S A s.heap H locs) (hc : vwCl[ci]? = some q) (hw : w[iw]? = some (b, .inr (ci, fs))) (hq : q.1 = y.cls) {lv : List (Nat × Value)} (hlv : lv_has ls nL lv) (hst : st0 = As.reverse ++ .ref b :: rest) (hcat : (rest.map fun v => v.category).sum ≤ 8)
    (kk : ∀ (H1 : Heap) (locs1 : List Loc), va_P D vwCl w' H1 → H.size ≤ H1.size → (∀ q : Nat, q < H.size → ¬ va_A w H.size q → H1[q]? = H[q]?) → va_S A s.heap H1 locs1 → W p l e R s m args below meth c H1 locs1 cells slots Q (F0 m (pc + 3) ls (ov.toList ++ rest))) : W p l e R s m args below meth c H locs cells slots Q (F0 m pc ls st0) := by
  refine jWrite (va_runV (rest := rest) (As := As) (b := b) (C := y.cls) (jFix C) (hM H.size) ⟨jCB C hY hl hR, C.2.2.2.2.1 _ hi, C.2.2.2.2.1 _ hsel⟩ ⟨fun a U g mk q => ⟨q.1, q.2.1, q.2.2.1, q.2.2.2.1.blind, q.2.2.2.2⟩, ?_, fun U hU hW => ⟨rfl, by rw [hU], by rw [hU]; exact hP, C.2.2.2.2.2.2.2.warm hW, hD.weaken (fun _ _ _ _ => trivial)⟩⟩ rfl rfl hlv.1 hst (lv_room hcat) hdg ⟨hcs.1, hcs.2⟩) hS ?_ kk
  · rw [← hq]
    exact jRecv C hP hc hw
  · intro q h
    rcases h with ⟨k, e, h⟩ | h
    · exact hD.2 k _ h
    · exact hA q (Nat.le_trans hS.1 h)
/-- a static call of a writing method -/
theorem jSm (C : Cx p s m args meth c cc nL own ret D G) (hdg : decode cc pc = .ok (.invokestatic index, 3)) (hM : mM l y (jws y bytes maxL rt) rm As D G w w' ov) (hY : jY y bytes maxL rt As.length) (hl : Cond.methodLink own index y ∈ jw) (hi : Cond.static y ∈ jw)
    (hR : jRoom rm R maxL) (hcs : cells ≤ R.cells ∧ slots ≤ R.slots) (hP : va_P D vwCl w H) (hD : va_D A w) (hA : ∀ q : Nat, s.heap.size ≤ q → A q) (hS : va_S A s.heap H locs) {lv : List (Nat × Value)} (hlv : lv_has ls nL lv) (hst : st0 = As.reverse ++ rest) (hcat : (rest.map fun v => v.category).sum ≤ 8)
    (kk : ∀ (H1 : Heap) (locs1 : List Loc), va_P D vwCl w' H1 → H.size ≤ H1.size → (∀ q : Nat, q < H.size → ¬ va_A w H.size q → H1[q]? = H[q]?) → va_S A s.heap H1 locs1 → W p l e R s m args below meth c H1 locs1 cells slots Q (F0 m (pc + 3) ls (ov.toList ++ rest))) : W p l e R s m args below meth c H locs cells slots Q (F0 m pc ls st0) := by
  refine jWrite (va_runS (rest := rest) (As := As) (jFix C) (hM H.size) ⟨jCB C hY hl hR, C.2.2.2.2.1 _ hi⟩ ⟨fun a U g mk q => ⟨q.1, q.2.1, q.2.2.1, q.2.2.2.1.blind, q.2.2.2.2⟩, fun U hU hW => ⟨rfl, by rw [hU], by rw [hU]; exact hP, C.2.2.2.2.2.2.2.warm hW, hD.weaken (fun _ _ _ _ => trivial)⟩⟩ rfl rfl hlv.1 hst (lv_room hcat) hdg ⟨hcs.1, hcs.2⟩) hS ?_ kk
  intro q h
  rcases h with ⟨k, e, h⟩ | h
  · exact hD.2 k _ h
  · exact hA q (Nat.le_trans hS.1 h)
end JC
/-- the same addresses: as apart as before -/
theorem jD {A : Nat → Prop} {w w' : va_W} (h : w.map Prod.fst = w'.map Prod.fst) (hD : va_D A w) : va_D A w' := by
  have key : ∀ (k : Nat) (q : Nat × va_E), w'[k]? = some q → ∃ q0, w[k]? = some q0 ∧ q0.1 = q.1 := by
    intro k q hk
    have h1 : (w'.map Prod.fst)[k]? = some q.1 := by rw [List.getElem?_map, hk]; rfl
    rw [← h, List.getElem?_map] at h1
    cases h2 : w[k]? with
    | none => rw [h2] at h1; cases h1
    | some q0 => rw [h2] at h1; exact ⟨q0, rfl, Option.some.inj h1⟩
  refine ⟨fun i j x y hi hj hxy => ?_, fun k q hk => ?_⟩
  · obtain ⟨x0, h1, h2⟩ := key i x hi
    obtain ⟨y0, h3, h4⟩ := key j y hj
    exact hD.1 i j x0 y0 h1 h3 (h2.trans (hxy.trans h4.symm))
  · obtain ⟨q0, h1, h2⟩ := key k q hk
    rw [← h2]
    exact hD.2 k q0 h1
/-- a part in the middle of a world -/
theorem jMidP {D : va_G} {pre mid post : va_W} {H : Heap} (h : va_P D vwCl (pre ++ (mid ++ post)) H) : va_P D vwCl mid H := by
  intro k q hk
  have hl : k < mid.length := (List.getElem?_eq_some_iff.mp hk).1
  refine h (pre.length + k) q ?_
  rw [List.getElem?_append_right (by omega), Nat.add_sub_cancel_left, List.getElem?_append_left hl]
  exact hk
theorem jMidD {A : Nat → Prop} {pre mid post : va_W} (h : va_D A (pre ++ (mid ++ post))) : va_D A mid := by
  have key : ∀ (k : Nat) (q : Nat × va_E), mid[k]? = some q → (pre ++ (mid ++ post))[pre.length + k]? = some q := by
    intro k q hk
    have hl : k < mid.length := (List.getElem?_eq_some_iff.mp hk).1
    rw [List.getElem?_append_right (by omega), Nat.add_sub_cancel_left, List.getElem?_append_left hl]
    exact hk
  refine ⟨fun i j x y hi hj hxy => ?_, fun k q hk => h.2 _ q (key k q hk)⟩
  have := h.1 _ _ x y (key i x hi) (key j y hj) hxy
  omega
/-- a callee has changed the part in the middle -/
theorem jMidJoin {D : va_G} {A : Nat → Prop} {pre mid mid' post : va_W} {H H1 : Heap} (hP : va_P D vwCl (pre ++ (mid ++ post)) H) (hD : va_D A (pre ++ (mid ++ post))) (hk : ∀ q : Nat, q < H.size → ¬ va_A mid H.size q → H1[q]? = H[q]?) (h1 : va_P D vwCl mid' H1) : va_P D vwCl (pre ++ (mid' ++ post)) H1 := by
  have hin : ∀ (k : Nat) (q : Nat × va_E), mid[k]? = some q → (pre ++ (mid ++ post))[pre.length + k]? = some q := by
    intro k q hk
    have hl : k < mid.length := (List.getElem?_eq_some_iff.mp hk).1
    rw [List.getElem?_append_right (by omega), Nat.add_sub_cancel_left, List.getElem?_append_left hl]
    exact hk
  have other : ∀ (i : Nat) (q : Nat × va_E), (pre ++ (mid ++ post))[i]? = some q → (i < pre.length ∨ pre.length + mid.length ≤ i) → va_at D vwCl q H1 := by
    intro i q hi hlt
    have hat := hP i q hi
    refine hat.kept (hk q.1 hat.lt ?_)
    rintro (⟨k, e, h⟩ | h)
    · have hl : k < mid.length := (List.getElem?_eq_some_iff.mp h).1
      have := hD.1 _ _ q (q.1, e) hi (hin k _ h) rfl
      omega
    · have := hat.lt
      omega
  refine va_P.app ?_ (va_P.app h1 ?_)
  · intro k q hq
    have hl : k < pre.length := (List.getElem?_eq_some_iff.mp hq).1
    exact other k q (by rw [List.getElem?_append_left hl]; exact hq) (Or.inl hl)
  · intro k q hq
    refine other (pre.length + (mid.length + k)) q ?_ (Or.inr (by omega))
    rw [List.getElem?_append_right (by omega), Nat.add_sub_cancel_left, List.getElem?_append_right (by omega), Nat.add_sub_cancel_left]
    exact hq
/-- numbers of the maps -/
def u1 {α : Type} (M : Nat → α) (r : Nat) (f : α) : Nat → α := fun x => cond (Nat.beq x r) f (M x)
def inb (i : Int32) (n : Nat) : Bool := decide (¬ (i < 0 ∨ n ≤ i.toNatClampNeg))

theorem inb_of {i : Int32} {n : Nat} (h : inb i n = true) : vp_in i n := show ¬ (i < 0 ∨ n ≤ i.toNatClampNeg) from of_decide_eq_true h
theorem jIf {α : Type} {b : Bool} {x : Option α} {r : α} (h : (if b = true then x else none) = some r) : b = true ∧ x = some r := by
  cases b with
  | true => exact ⟨rfl, h⟩
  | false => cases h
theorem jBind {α β : Type} {x : Option α} {f : α → Option β} {r : β} (h : x.bind f = some r) : ∃ a, x = some a ∧ f a = some r := Option.bind_eq_some_iff.mp h
def isB (v : Int32) : Bool := decide (v = 0 ∨ v = 1)
theorem isB_n {v : Int32} (h : isB v = true) : narrow .boolean (.int v) = .int v := by
  rcases of_decide_eq_true h with rfl | rfl <;> rfl

theorem jE {D : va_G} {H : Heap} : va_P D vwCl [] H := fun k q h => by simp at h
theorem jT1 {α : Type} {P : Prop} [Decidable P] {a b : Option α} {r : α} (h : (if P then a else b) = some r) (c : P) : a = some r := by rw [if_pos c] at h; exact h
theorem jF1 {α : Type} {P : Prop} [Decidable P] {a b : Option α} {r : α} (h : (if P then a else b) = some r) (c : ¬ P) : b = some r := by rw [if_neg c] at h; exact h
def isC (v : Int32) : Bool := decide (narrow .char (.int v) = .int v ∧ fits .char (.int v) = true)
theorem isC_n {v : Int32} (h : isC v = true) : narrow .char (.int v) = .int v := (of_decide_eq_true h).1
theorem isC_f {v : Int32} (h : isC v = true) : fits .char (.int v) = true := (of_decide_eq_true h).2
section JC2
variable {p : Program} {l : Launch} {e : Env} {R : Room} {s : State} {m : MethodId} {args : Array Value} {below : List Frame} {meth : Method} {c : Code} {H : Heap} {locs : List Loc} {cells slots : Nat} {Q : State → Prop} {cc : ByteArray} {nL : Nat} {own : String} {ret : Option FieldType} {D : va_G} {G : Nat → ClassId} {pc : Nat} {ls : Array Slot} {A : Nat → Prop} {w w' : va_W}
  {y : MethodName} {bytes : ByteArray} {maxL index : Nat} {rt : Option FieldType} {rm : Room} {As rest st0 : List Value} {r : Int32} {b : Nat}
theorem jTabDef (hexec : p.tables.exec = Jvm.exec) (hb : c.code = cc) {dflt lo hi : Int} {offs : Array Int} {len : Nat} {x : Int32} {tgt : Nat} (hdg : decode cc pc = .ok (.tableswitch dflt lo hi offs, len)) (h : ∀ k : Int, lo ≤ k → k ≤ hi → x.toInt = k → offs[(k - lo).toNat]? = some dflt) (ht : (pc : Int) + dflt = (tgt : Int))
    (kk : W p l e R s m args below meth c H locs cells slots Q (F0 m tgt ls rest)) : W p l e R s m args below meth c H locs cells slots Q (F0 m pc ls (.int x :: rest)) := by
  by_cases h1 : x.toInt < lo
  · exact lv_tableOut hexec hb hdg (Or.inl h1) ht kk
  · by_cases h2 : hi < x.toInt
    · exact lv_tableOut hexec hb hdg (Or.inr h2) ht kk
    · exact lv_tableIn hexec hb hdg h1 h2 (h _ (by omega) (by omega) rfl) ht kk
theorem jVpI (C : Cx p s m args meth c cc nL own ret D G) (hdg : decode cc pc = .ok (.invokevirtual index, 3)) (hM : pM l y (jws y bytes maxL rt) rm (.ref b :: As) D G w (some (.int r))) (hY : jY y bytes maxL rt As.length) (hl : Cond.methodLink own index y ∈ jw) (hi : Cond.instanceMethod y ∈ jw) (hsel : Cond.selects y.cls y y ∈ jw)
    (hR : jRoom rm R maxL) (hcs : cells ≤ R.cells ∧ slots ≤ R.slots) {ci iw : Nat} {q : vw_C} {fs : List Value} (hP : va_P D vwCl w H) (hc : vwCl[ci]? = some q) (hw : w[iw]? = some (b, .inr (ci, fs))) (hq : q.1 = y.cls) {lv : List (Nat × Value)} (hlv : lv_has ls nL lv) (hst : st0 = As.reverse ++ .ref b :: rest) (hcat : (rest.map fun v => v.category).sum ≤ 8)
    (kk : W p l e R s m args below meth c H locs cells slots Q (F0 m (pc + 3) ls (.int r :: rest))) : W p l e R s m args below meth c H locs cells slots Q (F0 m pc ls st0) := jVp C hdg hM hY hl hi hsel hR hcs hP hc hw hq hlv hst hcat kk
theorem jVpV (C : Cx p s m args meth c cc nL own ret D G) (hdg : decode cc pc = .ok (.invokevirtual index, 3)) (hM : pM l y (jws y bytes maxL rt) rm (.ref b :: As) D G w none) (hY : jY y bytes maxL rt As.length) (hl : Cond.methodLink own index y ∈ jw) (hi : Cond.instanceMethod y ∈ jw) (hsel : Cond.selects y.cls y y ∈ jw)
    (hR : jRoom rm R maxL) (hcs : cells ≤ R.cells ∧ slots ≤ R.slots) {ci iw : Nat} {q : vw_C} {fs : List Value} (hP : va_P D vwCl w H) (hc : vwCl[ci]? = some q) (hw : w[iw]? = some (b, .inr (ci, fs))) (hq : q.1 = y.cls) {lv : List (Nat × Value)} (hlv : lv_has ls nL lv) (hst : st0 = As.reverse ++ .ref b :: rest) (hcat : (rest.map fun v => v.category).sum ≤ 8)
    (kk : W p l e R s m args below meth c H locs cells slots Q (F0 m (pc + 3) ls rest)) : W p l e R s m args below meth c H locs cells slots Q (F0 m pc ls st0) := jVp C hdg hM hY hl hi hsel hR hcs hP hc hw hq hlv hst hcat kk
theorem jSpI (C : Cx p s m args meth c cc nL own ret D G) (hdg : decode cc pc = .ok (.invokestatic index, 3)) (hM : pM l y (jws y bytes maxL rt) rm As D G w (some (.int r))) (hY : jY y bytes maxL rt As.length) (hl : Cond.methodLink own index y ∈ jw) (hi : Cond.static y ∈ jw)
    (hR : jRoom rm R maxL) (hcs : cells ≤ R.cells ∧ slots ≤ R.slots) (hP : va_P D vwCl w H) {lv : List (Nat × Value)} (hlv : lv_has ls nL lv) (hst : st0 = As.reverse ++ rest) (hcat : (rest.map fun v => v.category).sum ≤ 8)
    (kk : W p l e R s m args below meth c H locs cells slots Q (F0 m (pc + 3) ls (.int r :: rest))) : W p l e R s m args below meth c H locs cells slots Q (F0 m pc ls st0) := jSp C hdg hM hY hl hi hR hcs hP hlv hst hcat kk
theorem jSpV (C : Cx p s m args meth c cc nL own ret D G) (hdg : decode cc pc = .ok (.invokestatic index, 3)) (hM : pM l y (jws y bytes maxL rt) rm As D G w none) (hY : jY y bytes maxL rt As.length) (hl : Cond.methodLink own index y ∈ jw) (hi : Cond.static y ∈ jw)
    (hR : jRoom rm R maxL) (hcs : cells ≤ R.cells ∧ slots ≤ R.slots) (hP : va_P D vwCl w H) {lv : List (Nat × Value)} (hlv : lv_has ls nL lv) (hst : st0 = As.reverse ++ rest) (hcat : (rest.map fun v => v.category).sum ≤ 8)
    (kk : W p l e R s m args below meth c H locs cells slots Q (F0 m (pc + 3) ls rest)) : W p l e R s m args below meth c H locs cells slots Q (F0 m pc ls st0) := jSp C hdg hM hY hl hi hR hcs hP hlv hst hcat kk
theorem jSpNI (C : Cx p s m args meth c cc nL own ret D G) (hdg : decode cc pc = .ok (.invokestatic index, 3)) {host : String} (hM : pM l y (jws y bytes maxL rt) rm As D G w (some (.int r))) (hY : jY y bytes maxL rt As.length) (hl : Cond.methodLinkNest own index y host ∈ jnw) (hi : Cond.static y ∈ jw)
    (hR : jRoom rm R maxL) (hcs : cells ≤ R.cells ∧ slots ≤ R.slots) (hP : va_P D vwCl w H) {lv : List (Nat × Value)} (hlv : lv_has ls nL lv) (hst : st0 = As.reverse ++ rest) (hcat : (rest.map fun v => v.category).sum ≤ 8)
    (kk : W p l e R s m args below meth c H locs cells slots Q (F0 m (pc + 3) ls (.int r :: rest))) : W p l e R s m args below meth c H locs cells slots Q (F0 m pc ls st0) := jSpN C hdg hM hY hl hi hR hcs hP hlv hst hcat kk
theorem jSpNV (C : Cx p s m args meth c cc nL own ret D G) (hdg : decode cc pc = .ok (.invokestatic index, 3)) {host : String} (hM : pM l y (jws y bytes maxL rt) rm As D G w none) (hY : jY y bytes maxL rt As.length) (hl : Cond.methodLinkNest own index y host ∈ jnw) (hi : Cond.static y ∈ jw)
    (hR : jRoom rm R maxL) (hcs : cells ≤ R.cells ∧ slots ≤ R.slots) (hP : va_P D vwCl w H) {lv : List (Nat × Value)} (hlv : lv_has ls nL lv) (hst : st0 = As.reverse ++ rest) (hcat : (rest.map fun v => v.category).sum ≤ 8)
    (kk : W p l e R s m args below meth c H locs cells slots Q (F0 m (pc + 3) ls rest)) : W p l e R s m args below meth c H locs cells slots Q (F0 m pc ls st0) := jSpN C hdg hM hY hl hi hR hcs hP hlv hst hcat kk
theorem jVmI (C : Cx p s m args meth c cc nL own ret D G) (hdg : decode cc pc = .ok (.invokevirtual index, 3)) (hM : mM l y (jws y bytes maxL rt) rm (.ref b :: As) D G w w' (some (.int r))) (hY : jY y bytes maxL rt As.length) (hl : Cond.methodLink own index y ∈ jw) (hi : Cond.instanceMethod y ∈ jw) (hsel : Cond.selects y.cls y y ∈ jw)
    (hR : jRoom rm R maxL) (hcs : cells ≤ R.cells ∧ slots ≤ R.slots) {ci iw : Nat} {q : vw_C} {fs : List Value} (hP : va_P D vwCl w H) (hD : va_D A w) (hA : ∀ q : Nat, s.heap.size ≤ q → A q) (hS : va_S A s.heap H locs) (hc : vwCl[ci]? = some q) (hw : w[iw]? = some (b, .inr (ci, fs))) (hq : q.1 = y.cls) {lv : List (Nat × Value)} (hlv : lv_has ls nL lv) (hst : st0 = As.reverse ++ .ref b :: rest) (hcat : (rest.map fun v => v.category).sum ≤ 8)
    (kk : ∀ (H1 : Heap) (locs1 : List Loc), va_P D vwCl w' H1 → H.size ≤ H1.size → (∀ q : Nat, q < H.size → ¬ va_A w H.size q → H1[q]? = H[q]?) → va_S A s.heap H1 locs1 → W p l e R s m args below meth c H1 locs1 cells slots Q (F0 m (pc + 3) ls (.int r :: rest))) : W p l e R s m args below meth c H locs cells slots Q (F0 m pc ls st0) := jVm C hdg hM hY hl hi hsel hR hcs hP hD hA hS hc hw hq hlv hst hcat kk
theorem jVmV (C : Cx p s m args meth c cc nL own ret D G) (hdg : decode cc pc = .ok (.invokevirtual index, 3)) (hM : mM l y (jws y bytes maxL rt) rm (.ref b :: As) D G w w' none) (hY : jY y bytes maxL rt As.length) (hl : Cond.methodLink own index y ∈ jw) (hi : Cond.instanceMethod y ∈ jw) (hsel : Cond.selects y.cls y y ∈ jw)
    (hR : jRoom rm R maxL) (hcs : cells ≤ R.cells ∧ slots ≤ R.slots) {ci iw : Nat} {q : vw_C} {fs : List Value} (hP : va_P D vwCl w H) (hD : va_D A w) (hA : ∀ q : Nat, s.heap.size ≤ q → A q) (hS : va_S A s.heap H locs) (hc : vwCl[ci]? = some q) (hw : w[iw]? = some (b, .inr (ci, fs))) (hq : q.1 = y.cls) {lv : List (Nat × Value)} (hlv : lv_has ls nL lv) (hst : st0 = As.reverse ++ .ref b :: rest) (hcat : (rest.map fun v => v.category).sum ≤ 8)
    (kk : ∀ (H1 : Heap) (locs1 : List Loc), va_P D vwCl w' H1 → H.size ≤ H1.size → (∀ q : Nat, q < H.size → ¬ va_A w H.size q → H1[q]? = H[q]?) → va_S A s.heap H1 locs1 → W p l e R s m args below meth c H1 locs1 cells slots Q (F0 m (pc + 3) ls rest)) : W p l e R s m args below meth c H locs cells slots Q (F0 m pc ls st0) := jVm C hdg hM hY hl hi hsel hR hcs hP hD hA hS hc hw hq hlv hst hcat kk
theorem jSmI (C : Cx p s m args meth c cc nL own ret D G) (hdg : decode cc pc = .ok (.invokestatic index, 3)) (hM : mM l y (jws y bytes maxL rt) rm As D G w w' (some (.int r))) (hY : jY y bytes maxL rt As.length) (hl : Cond.methodLink own index y ∈ jw) (hi : Cond.static y ∈ jw)
    (hR : jRoom rm R maxL) (hcs : cells ≤ R.cells ∧ slots ≤ R.slots) (hP : va_P D vwCl w H) (hD : va_D A w) (hA : ∀ q : Nat, s.heap.size ≤ q → A q) (hS : va_S A s.heap H locs) {lv : List (Nat × Value)} (hlv : lv_has ls nL lv) (hst : st0 = As.reverse ++ rest) (hcat : (rest.map fun v => v.category).sum ≤ 8)
    (kk : ∀ (H1 : Heap) (locs1 : List Loc), va_P D vwCl w' H1 → H.size ≤ H1.size → (∀ q : Nat, q < H.size → ¬ va_A w H.size q → H1[q]? = H[q]?) → va_S A s.heap H1 locs1 → W p l e R s m args below meth c H1 locs1 cells slots Q (F0 m (pc + 3) ls (.int r :: rest))) : W p l e R s m args below meth c H locs cells slots Q (F0 m pc ls st0) := jSm C hdg hM hY hl hi hR hcs hP hD hA hS hlv hst hcat kk
theorem jSmV (C : Cx p s m args meth c cc nL own ret D G) (hdg : decode cc pc = .ok (.invokestatic index, 3)) (hM : mM l y (jws y bytes maxL rt) rm As D G w w' none) (hY : jY y bytes maxL rt As.length) (hl : Cond.methodLink own index y ∈ jw) (hi : Cond.static y ∈ jw)
    (hR : jRoom rm R maxL) (hcs : cells ≤ R.cells ∧ slots ≤ R.slots) (hP : va_P D vwCl w H) (hD : va_D A w) (hA : ∀ q : Nat, s.heap.size ≤ q → A q) (hS : va_S A s.heap H locs) {lv : List (Nat × Value)} (hlv : lv_has ls nL lv) (hst : st0 = As.reverse ++ rest) (hcat : (rest.map fun v => v.category).sum ≤ 8)
    (kk : ∀ (H1 : Heap) (locs1 : List Loc), va_P D vwCl w' H1 → H.size ≤ H1.size → (∀ q : Nat, q < H.size → ¬ va_A w H.size q → H1[q]? = H[q]?) → va_S A s.heap H1 locs1 → W p l e R s m args below meth c H1 locs1 cells slots Q (F0 m (pc + 3) ls rest)) : W p l e R s m args below meth c H locs cells slots Q (F0 m pc ls st0) := jSm C hdg hM hY hl hi hR hcs hP hD hA hS hlv hst hcat kk
end JC2

def jlet {α β : Type} (x : α) (f : α → β) : β := f x
theorem jLet {α β : Type} {x : α} {f : α → Option β} {r : β} (h : jlet x f = some r) : ∃ y, y = x ∧ f y = some r := ⟨x, rfl, h⟩
def stF (M : Nat → Nat → Int32) (k : Nat) (v : Int32) : Nat → Nat → Int32 := u1 M 0 (u1 (M 0) k v)
def stA (M : Nat → Nat → Int32) (r : Nat) (i v : Int32) : Nat → Nat → Int32 := u1 M r (upd (M r) i.toNatClampNeg v)
