abbrev FL : List Cond := flatC (Jvm.Cond.and given_1 narrow_1)
set_option maxHeartbeats 4000000 in
set_option maxRecDepth 100000 in
theorem jcw_in : ∀ w ∈ jcw, w ∈ FL := by decide +kernel
def jex : List Cond := [.exactly (.string "TheatreSeasons$Input" 70) "java/lang/String", .exactly (.string "TheatreSeasons$Input" 72) "java/lang/String", .exactly (.string "TheatreSeasons$Input" 74) "java/lang/String", .exactly (.string "TheatreSeasons$Input" 76) "java/lang/String", .exactly (.string "TheatreSeasons$Input" 78) "java/lang/String", .exactly (.string "TheatreSeasons$Input" 80) "java/lang/String"]
set_option maxHeartbeats 4000000 in
set_option maxRecDepth 100000 in
theorem jex_in : ∀ w ∈ jex, w ∈ FL := by decide +kernel
def jco : List Cond := [.eq (.field (.string "TheatreSeasons$Input" 70) "java/lang/String" "coder" "B") (.int 0), .eq (.field (.string "TheatreSeasons$Input" 72) "java/lang/String" "coder" "B") (.int 0), .eq (.field (.string "TheatreSeasons$Input" 74) "java/lang/String" "coder" "B") (.int 0), .eq (.field (.string "TheatreSeasons$Input" 76) "java/lang/String" "coder" "B") (.int 0), .eq (.field (.string "TheatreSeasons$Input" 78) "java/lang/String" "coder" "B") (.int 0), .eq (.field (.string "TheatreSeasons$Input" 80) "java/lang/String" "coder" "B") (.int 0)]
set_option maxHeartbeats 4000000 in
set_option maxRecDepth 100000 in
theorem jco_in : ∀ w ∈ jco, w ∈ FL := by decide +kernel
def jar : List Cond := [.arrayOf (.field (.string "TheatreSeasons$Input" 70) "java/lang/String" "value" "[B") .byte, .arrayOf (.field (.string "TheatreSeasons$Input" 72) "java/lang/String" "value" "[B") .byte, .arrayOf (.field (.string "TheatreSeasons$Input" 74) "java/lang/String" "value" "[B") .byte, .arrayOf (.field (.string "TheatreSeasons$Input" 76) "java/lang/String" "value" "[B") .byte, .arrayOf (.field (.string "TheatreSeasons$Input" 78) "java/lang/String" "value" "[B") .byte, .arrayOf (.field (.string "TheatreSeasons$Input" 80) "java/lang/String" "value" "[B") .byte]
set_option maxHeartbeats 4000000 in
set_option maxRecDepth 100000 in
theorem jar_in : ∀ w ∈ jar, w ∈ FL := by decide +kernel
def jle : List Cond := [.eq (.length (.field (.string "TheatreSeasons$Input" 70) "java/lang/String" "value" "[B")) (.int 3), .eq (.length (.field (.string "TheatreSeasons$Input" 72) "java/lang/String" "value" "[B")) (.int 5), .eq (.length (.field (.string "TheatreSeasons$Input" 74) "java/lang/String" "value" "[B")) (.int 3), .eq (.length (.field (.string "TheatreSeasons$Input" 76) "java/lang/String" "value" "[B")) (.int 5), .eq (.length (.field (.string "TheatreSeasons$Input" 78) "java/lang/String" "value" "[B")) (.int 3), .eq (.length (.field (.string "TheatreSeasons$Input" 80) "java/lang/String" "value" "[B")) (.int 0)]
set_option maxHeartbeats 4000000 in
set_option maxRecDepth 100000 in
theorem jle_in : ∀ w ∈ jle, w ∈ FL := by decide +kernel
def jel : List Cond := [.eq (.elem (.field (.string "TheatreSeasons$Input" 70) "java/lang/String" "value" "[B") (.int 0)) (.int 35), .eq (.elem (.field (.string "TheatreSeasons$Input" 70) "java/lang/String" "value" "[B") (.int 1)) (.int 120), .eq (.elem (.field (.string "TheatreSeasons$Input" 70) "java/lang/String" "value" "[B") (.int 2)) (.int 35), .eq (.elem (.field (.string "TheatreSeasons$Input" 72) "java/lang/String" "value" "[B") (.int 0)) (.int 35), .eq (.elem (.field (.string "TheatreSeasons$Input" 72) "java/lang/String" "value" "[B") (.int 1)) (.int 120), .eq (.elem (.field (.string "TheatreSeasons$Input" 72) "java/lang/String" "value" "[B") (.int 2)) (.int 35), .eq (.elem (.field (.string "TheatreSeasons$Input" 72) "java/lang/String" "value" "[B") (.int 3)) (.int 33), .eq (.elem (.field (.string "TheatreSeasons$Input" 72) "java/lang/String" "value" "[B") (.int 4)) (.int 49), .eq (.elem (.field (.string "TheatreSeasons$Input" 74) "java/lang/String" "value" "[B") (.int 0)) (.int 35), .eq (.elem (.field (.string "TheatreSeasons$Input" 74) "java/lang/String" "value" "[B") (.int 1)) (.int 58), .eq (.elem (.field (.string "TheatreSeasons$Input" 74) "java/lang/String" "value" "[B") (.int 2)) (.int 35), .eq (.elem (.field (.string "TheatreSeasons$Input" 76) "java/lang/String" "value" "[B") (.int 0)) (.int 35), .eq (.elem (.field (.string "TheatreSeasons$Input" 76) "java/lang/String" "value" "[B") (.int 1)) (.int 58), .eq (.elem (.field (.string "TheatreSeasons$Input" 76) "java/lang/String" "value" "[B") (.int 2)) (.int 35), .eq (.elem (.field (.string "TheatreSeasons$Input" 76) "java/lang/String" "value" "[B") (.int 3)) (.int 62), .eq (.elem (.field (.string "TheatreSeasons$Input" 76) "java/lang/String" "value" "[B") (.int 4)) (.int 35), .eq (.elem (.field (.string "TheatreSeasons$Input" 78) "java/lang/String" "value" "[B") (.int 0)) (.int 35), .eq (.elem (.field (.string "TheatreSeasons$Input" 78) "java/lang/String" "value" "[B") (.int 1)) (.int 64), .eq (.elem (.field (.string "TheatreSeasons$Input" 78) "java/lang/String" "value" "[B") (.int 2)) (.int 35)]
set_option maxHeartbeats 4000000 in
set_option maxRecDepth 100000 in
theorem jel_in : ∀ w ∈ jel, w ∈ FL := by decide +kernel
def jne : List Cond := [.not (.eq (.string "TheatreSeasons$Input" 70) (.string "TheatreSeasons$Input" 72)), .not (.eq (.string "TheatreSeasons$Input" 70) (.string "TheatreSeasons$Input" 74)), .not (.eq (.string "TheatreSeasons$Input" 70) (.string "TheatreSeasons$Input" 76)), .not (.eq (.string "TheatreSeasons$Input" 70) (.string "TheatreSeasons$Input" 78)), .not (.eq (.string "TheatreSeasons$Input" 70) (.string "TheatreSeasons$Input" 80)), .not (.eq (.string "TheatreSeasons$Input" 72) (.string "TheatreSeasons$Input" 74)), .not (.eq (.string "TheatreSeasons$Input" 72) (.string "TheatreSeasons$Input" 76)), .not (.eq (.string "TheatreSeasons$Input" 72) (.string "TheatreSeasons$Input" 78)), .not (.eq (.string "TheatreSeasons$Input" 72) (.string "TheatreSeasons$Input" 80)), .not (.eq (.string "TheatreSeasons$Input" 74) (.string "TheatreSeasons$Input" 76)), .not (.eq (.string "TheatreSeasons$Input" 74) (.string "TheatreSeasons$Input" 78)), .not (.eq (.string "TheatreSeasons$Input" 74) (.string "TheatreSeasons$Input" 80)), .not (.eq (.string "TheatreSeasons$Input" 76) (.string "TheatreSeasons$Input" 78)), .not (.eq (.string "TheatreSeasons$Input" 76) (.string "TheatreSeasons$Input" 80)), .not (.eq (.string "TheatreSeasons$Input" 78) (.string "TheatreSeasons$Input" 80))]
set_option maxHeartbeats 4000000 in
set_option maxRecDepth 100000 in
theorem jne_in : ∀ w ∈ jne, w ∈ FL := by decide +kernel
def jst : List Cond := [.isRef (.static "jdk/internal/util/Preconditions" "SIOOBE_FORMATTER" "Ljava/util/function/BiFunction;"), .eq (.static "java/lang/String" "COMPACT_STRINGS" "Z") (.int 1), .isRef (.static Bundle.tN "UNASSIGNED_STACK" Bundle.steD), .isRef (.static Bundle.tN "SUPPRESSED_SENTINEL" Bundle.listD)]
set_option maxHeartbeats 4000000 in
set_option maxRecDepth 100000 in
theorem jst_in : ∀ w ∈ jst, w ∈ FL := by decide +kernel
def jls : List Cond := [.laysStatic "jdk/internal/util/Preconditions" "SIOOBE_FORMATTER" "Ljava/util/function/BiFunction;", .laysStatic "java/lang/String" "COMPACT_STRINGS" "Z", .laysStatic Bundle.tN "UNASSIGNED_STACK" Bundle.steD, .laysStatic Bundle.tN "SUPPRESSED_SENTINEL" Bundle.listD, .initialized "jdk/internal/util/Preconditions", .initialized "java/lang/String", .initialized Bundle.tN, .stringRef "TheatreSeasons$Input" 70 "#x#", .stringRef "TheatreSeasons$Input" 72 "#x#!1", .stringRef "TheatreSeasons$Input" 74 "#:#", .stringRef "TheatreSeasons$Input" 76 "#:#>#", .stringRef "TheatreSeasons$Input" 78 "#@#", .stringRef "TheatreSeasons$Input" 80 "", .stringRef "TheatreSeasons" 348 "no such number", .stringRef "TheatreSeasons" 351 "out of range", .stringRef "TheatreSeasons" 339 "there is no place for one more", .stringRef "TheatreSeasons" 343 "refused; reason() tells why", .stringRef "TheatreSeasons" 116 "what is not 0 to 7", .stringRef "TheatreSeasons" 173 "no performance on this stage on this date", .stringRef "TheatreSeasons" 179 "no such date from this one on", .stringRef "TheatreSeasons" 184 "it can be moved to no other date", .stringRef "TheatreSeasons" 202 "no request has this place", .stringRef "TheatreSeasons" 245 "what is not 0 to 3", .stringRef "TheatreSeasons" 254 "the production has no performances", .stringRef "TheatreSeasons" 257 "no reason was kept", .stringRef "TheatreSeasons" 282 "account is not 0 to 14", .stringRef "TheatreSeasons" 294 "the input is full", .stringRef "TheatreSeasons" 303 "the input is malformed", .stringRef "TheatreSeasons" 315 "a command cannot be done", .stringRef "TheatreSeasons" 320 "no error position was kept", .stringRef "TheatreSeasons" 322 "no change is remembered", .stringRef "TheatreSeasons" 334 "nothing was saved", .initialized "TheatreSeasons", .instantiable "TheatreSeasons" 8]
set_option maxHeartbeats 4000000 in
set_option maxRecDepth 100000 in
theorem jls_in : ∀ w ∈ jls, w ∈ lw_tbl := by decide +kernel
def jtm (i : Nat) : Term := match i with | 0 => .string "TheatreSeasons$Input" 70 | 1 => .string "TheatreSeasons$Input" 72 | 2 => .string "TheatreSeasons$Input" 74 | 3 => .string "TheatreSeasons$Input" 76 | 4 => .string "TheatreSeasons$Input" 78 | _ => .string "TheatreSeasons$Input" 80
theorem j6 {P : Nat → Prop} (h0 : P 0) (h1 : P 1) (h2 : P 2) (h3 : P 3) (h4 : P 4) (h5 : P 5) : ∀ i, i < 6 → P i := by
  intro i hi
  rcases (show i = 0 ∨ i = 1 ∨ i = 2 ∨ i = 3 ∨ i = 4 ∨ i = 5 by omega) with rfl | rfl | rfl | rfl | rfl | rfl <;> assumption
theorem law_C {s : State} {args : Array Value} (hs : ∀ w ∈ FL, w.before args s = true) : jC s := by
  have hc : ∀ w ∈ jcw, w.before args s = true := fun w h => hs w (jcw_in w h)
  intro i j a b c d hij
  have key : ∀ x : Int32, 1 ≤ x → x ≤ 6 → x = 1 ∨ x = 2 ∨ x = 3 ∨ x = 4 ∨ x = 5 ∨ x = 6 := by
    intro x h1 h2
    have e1 := Int32.le_iff_toInt_le.mp h1
    have e2 := Int32.le_iff_toInt_le.mp h2
    have e3 : (1 : Int32).toInt = 1 := rfl
    have e4 : (6 : Int32).toInt = 6 := rfl
    rw [e3] at e1; rw [e4] at e2
    rcases (show x.toInt = 1 ∨ x.toInt = 2 ∨ x.toInt = 3 ∨ x.toInt = 4 ∨ x.toInt = 5 ∨ x.toInt = 6 by omega) with h | h | h | h | h | h
    · exact Or.inl (Int32.toInt_inj.mp h)
    · exact Or.inr (Or.inl (Int32.toInt_inj.mp h))
    · exact Or.inr (Or.inr (Or.inl (Int32.toInt_inj.mp h)))
    · exact Or.inr (Or.inr (Or.inr (Or.inl (Int32.toInt_inj.mp h))))
    · exact Or.inr (Or.inr (Or.inr (Or.inr (Or.inl (Int32.toInt_inj.mp h)))))
    · exact Or.inr (Or.inr (Or.inr (Or.inr (Or.inr (Int32.toInt_inj.mp h)))))
  rcases key i a b with rfl | rfl | rfl | rfl | rfl | rfl <;> rcases key j c d with rfl | rfl | rfl | rfl | rfl | rfl
  · exact absurd rfl hij
  · exact va_Nc.of (hc _ (List.mem_of_getElem? (i := 0) rfl))
  · exact va_Nc.of (hc _ (List.mem_of_getElem? (i := 1) rfl))
  · exact va_Nc.of (hc _ (List.mem_of_getElem? (i := 2) rfl))
  · exact va_Nc.of (hc _ (List.mem_of_getElem? (i := 3) rfl))
  · exact va_Nc.of (hc _ (List.mem_of_getElem? (i := 4) rfl))
  · exact va_Nc.of (hc _ (List.mem_of_getElem? (i := 5) rfl))
  · exact absurd rfl hij
  · exact va_Nc.of (hc _ (List.mem_of_getElem? (i := 6) rfl))
  · exact va_Nc.of (hc _ (List.mem_of_getElem? (i := 7) rfl))
  · exact va_Nc.of (hc _ (List.mem_of_getElem? (i := 8) rfl))
  · exact va_Nc.of (hc _ (List.mem_of_getElem? (i := 9) rfl))
  · exact va_Nc.of (hc _ (List.mem_of_getElem? (i := 10) rfl))
  · exact va_Nc.of (hc _ (List.mem_of_getElem? (i := 11) rfl))
  · exact absurd rfl hij
  · exact va_Nc.of (hc _ (List.mem_of_getElem? (i := 12) rfl))
  · exact va_Nc.of (hc _ (List.mem_of_getElem? (i := 13) rfl))
  · exact va_Nc.of (hc _ (List.mem_of_getElem? (i := 14) rfl))
  · exact va_Nc.of (hc _ (List.mem_of_getElem? (i := 15) rfl))
  · exact va_Nc.of (hc _ (List.mem_of_getElem? (i := 16) rfl))
  · exact va_Nc.of (hc _ (List.mem_of_getElem? (i := 17) rfl))
  · exact absurd rfl hij
  · exact va_Nc.of (hc _ (List.mem_of_getElem? (i := 18) rfl))
  · exact va_Nc.of (hc _ (List.mem_of_getElem? (i := 19) rfl))
  · exact va_Nc.of (hc _ (List.mem_of_getElem? (i := 20) rfl))
  · exact va_Nc.of (hc _ (List.mem_of_getElem? (i := 21) rfl))
  · exact va_Nc.of (hc _ (List.mem_of_getElem? (i := 22) rfl))
  · exact va_Nc.of (hc _ (List.mem_of_getElem? (i := 23) rfl))
  · exact absurd rfl hij
  · exact va_Nc.of (hc _ (List.mem_of_getElem? (i := 24) rfl))
  · exact va_Nc.of (hc _ (List.mem_of_getElem? (i := 25) rfl))
  · exact va_Nc.of (hc _ (List.mem_of_getElem? (i := 26) rfl))
  · exact va_Nc.of (hc _ (List.mem_of_getElem? (i := 27) rfl))
  · exact va_Nc.of (hc _ (List.mem_of_getElem? (i := 28) rfl))
  · exact va_Nc.of (hc _ (List.mem_of_getElem? (i := 29) rfl))
  · exact absurd rfl hij
