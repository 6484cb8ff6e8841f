def RX0 : String := "TheatreSeasons$History"
def TX0 : u_T := fun k => match k with
  | 0 => ("TheatreSeasons$History", "rows", "[LTheatreSeasons$Season;", true)
  | _ => ("TheatreSeasons$History", "count", "I", false)
def tyX0 : Nat → FieldType := fun k => match k with
  | 0 => .array (.object "TheatreSeasons$Season")
  | _ => .int
abbrev wsX00 : List Cond := u_ws RX0 TX0 2
theorem nmX0 : ∀ a, a < 2 → ∀ b, b < 2 → a ≠ b → (TX0 a).2.1 ≠ (TX0 b).2.1 := by decide +kernel
theorem tyX0_ok : ∀ k, k < 2 → parseFieldDescriptor (TX0 k).2.2.1 = some (tyX0 k) := by decide +kernel
abbrev cX0_init : ByteArray := prog_2_method_1_code
def yX0_init : MethodName := ⟨RX0, "<init>", "()V"⟩
abbrev cX0_open : ByteArray := prog_2_method_2_code
def yX0_open : MethodName := ⟨RX0, "open", "(LTheatreSeasons$Season;)V"⟩
abbrev cX0_close : ByteArray := prog_2_method_4_code
def yX0_close : MethodName := ⟨RX0, "close", "()V"⟩
abbrev cX0_forgetOldest : ByteArray := prog_2_method_7_code
def yX0_forgetOldest : MethodName := ⟨RX0, "forgetOldest", "()V"⟩
abbrev cX0_rowAt : ByteArray := prog_2_method_8_code
def yX0_rowAt : MethodName := ⟨RX0, "rowAt", "(I)LTheatreSeasons$Season;"⟩
abbrev cX0_copySeason : ByteArray := prog_2_method_9_code
def yX0_copySeason : MethodName := ⟨RX0, "copySeason", "(LTheatreSeasons$Season;LTheatreSeasons$Season;)V"⟩
def RX1 : String := "TheatreSeasons$Input"
def TX1 : u_T := fun k => match k with
  | 0 => ("TheatreSeasons$Input", "signs", "[C", true)
  | 1 => ("TheatreSeasons$Input", "length", "I", false)
  | 2 => ("TheatreSeasons$Input", "position", "I", false)
  | 3 => ("TheatreSeasons$Input", "letter", "C", false)
  | _ => ("TheatreSeasons$Input", "numbers", "LTheatreSeasons$Row;", true)
def tyX1 : Nat → FieldType := fun k => match k with
  | 0 => .array .char
  | 1 => .int
  | 2 => .int
  | 3 => .char
  | _ => .object "TheatreSeasons$Row"
abbrev wsX10 : List Cond := u_ws RX1 TX1 5
theorem nmX1 : ∀ a, a < 5 → ∀ b, b < 5 → a ≠ b → (TX1 a).2.1 ≠ (TX1 b).2.1 := by decide +kernel
theorem tyX1_ok : ∀ k, k < 5 → parseFieldDescriptor (TX1 k).2.2.1 = some (tyX1 k) := by decide +kernel
abbrev cX1_init : ByteArray := prog_3_method_1_code
def yX1_init : MethodName := ⟨RX1, "<init>", "()V"⟩
def RX2 : String := "TheatreSeasons$Performances"
def TX2 : u_T := fun k => match k with
  | 0 => ("TheatreSeasons$Performances", "count", "I", false)
  | 1 => ("TheatreSeasons$Performances", "productions", "LTheatreSeasons$Row;", true)
  | 2 => ("TheatreSeasons$Performances", "stages", "LTheatreSeasons$Row;", true)
  | 3 => ("TheatreSeasons$Performances", "dates", "LTheatreSeasons$Row;", true)
  | 4 => ("TheatreSeasons$Performances", "sold", "LTheatreSeasons$Row;", true)
  | 5 => ("TheatreSeasons$Performances", "held", "LTheatreSeasons$Row;", true)
  | _ => ("TheatreSeasons$Performances", "holders", "LTheatreSeasons$Row;", true)
def tyX2 : Nat → FieldType := fun k => match k with
  | 0 => .int
  | 1 => .object "TheatreSeasons$Row"
  | 2 => .object "TheatreSeasons$Row"
  | 3 => .object "TheatreSeasons$Row"
  | 4 => .object "TheatreSeasons$Row"
  | 5 => .object "TheatreSeasons$Row"
  | _ => .object "TheatreSeasons$Row"
abbrev wsX20 : List Cond := u_ws RX2 TX2 7
theorem nmX2 : ∀ a, a < 7 → ∀ b, b < 7 → a ≠ b → (TX2 a).2.1 ≠ (TX2 b).2.1 := by decide +kernel
theorem tyX2_ok : ∀ k, k < 7 → parseFieldDescriptor (TX2 k).2.2.1 = some (tyX2 k) := by decide +kernel
abbrev cX2_init : ByteArray := prog_4_method_1_code
def yX2_init : MethodName := ⟨RX2, "<init>", "()V"⟩
abbrev cX2_has : ByteArray := prog_4_method_2_code
def yX2_has : MethodName := ⟨RX2, "has", "(I)Z"⟩
abbrev cX2_add : ByteArray := prog_4_method_3_code
def yX2_add : MethodName := ⟨RX2, "add", "(III)I"⟩
abbrev cX2_find : ByteArray := prog_4_method_5_code
def yX2_find : MethodName := ⟨RX2, "find", "(II)I"⟩
abbrev cX2_findOther : ByteArray := prog_4_method_6_code
def yX2_findOther : MethodName := ⟨RX2, "findOther", "(IIII)I"⟩
abbrev cX2_taken : ByteArray := prog_4_method_7_code
def yX2_taken : MethodName := ⟨RX2, "taken", "(I)I"⟩
abbrev cX2_isHeldBy : ByteArray := prog_4_method_8_code
def yX2_isHeldBy : MethodName := ⟨RX2, "isHeldBy", "(II)Z"⟩
abbrev cX2_heldFor : ByteArray := prog_4_method_9_code
def yX2_heldFor : MethodName := ⟨RX2, "heldFor", "(I)I"⟩
abbrev cX2_beginHolding : ByteArray := prog_4_method_10_code
def yX2_beginHolding : MethodName := ⟨RX2, "beginHolding", "(III)V"⟩
abbrev cX2_copyFrom : ByteArray := prog_4_method_12_code
def yX2_copyFrom : MethodName := ⟨RX2, "copyFrom", "(LTheatreSeasons$Performances;)V"⟩
def RX3 : String := "TheatreSeasons$Productions"
def TX3 : u_T := fun k => match k with
  | 0 => ("TheatreSeasons$Productions", "count", "I", false)
  | 1 => ("TheatreSeasons$Productions", "sizes", "LTheatreSeasons$Row;", true)
  | 2 => ("TheatreSeasons$Productions", "crews", "LTheatreSeasons$Row;", true)
  | 3 => ("TheatreSeasons$Productions", "prices", "LTheatreSeasons$Row;", true)
  | 4 => ("TheatreSeasons$Productions", "shares", "LTheatreSeasons$Row;", true)
  | _ => ("TheatreSeasons$Productions", "dates", "LTheatreSeasons$Row;", true)
def tyX3 : Nat → FieldType := fun k => match k with
  | 0 => .int
  | 1 => .object "TheatreSeasons$Row"
  | 2 => .object "TheatreSeasons$Row"
  | 3 => .object "TheatreSeasons$Row"
  | 4 => .object "TheatreSeasons$Row"
  | _ => .object "TheatreSeasons$Row"
abbrev wsX30 : List Cond := u_ws RX3 TX3 6
theorem nmX3 : ∀ a, a < 6 → ∀ b, b < 6 → a ≠ b → (TX3 a).2.1 ≠ (TX3 b).2.1 := by decide +kernel
theorem tyX3_ok : ∀ k, k < 6 → parseFieldDescriptor (TX3 k).2.2.1 = some (tyX3 k) := by decide +kernel
abbrev cX3_init : ByteArray := prog_5_method_1_code
def yX3_init : MethodName := ⟨RX3, "<init>", "()V"⟩
abbrev cX3_has : ByteArray := prog_5_method_2_code
def yX3_has : MethodName := ⟨RX3, "has", "(I)Z"⟩
abbrev cX3_add : ByteArray := prog_5_method_3_code
def yX3_add : MethodName := ⟨RX3, "add", "(IIII)I"⟩
abbrev cX3_isStored : ByteArray := prog_5_method_4_code
def yX3_isStored : MethodName := ⟨RX3, "isStored", "(II)Z"⟩
abbrev cX3_loadIf : ByteArray := prog_5_method_5_code
def yX3_loadIf : MethodName := ⟨RX3, "loadIf", "(III)I"⟩
abbrev cX3_peakIf : ByteArray := prog_5_method_6_code
def yX3_peakIf : MethodName := ⟨RX3, "peakIf", "(II)I"⟩
abbrev cX3_crewIf : ByteArray := prog_5_method_7_code
def yX3_crewIf : MethodName := ⟨RX3, "crewIf", "(III)I"⟩
abbrev cX3_staffRefusalIf : ByteArray := prog_5_method_8_code
def yX3_staffRefusalIf : MethodName := ⟨RX3, "staffRefusalIf", "(III)I"⟩
abbrev cX3_roomRefusalIf : ByteArray := prog_5_method_9_code
def yX3_roomRefusalIf : MethodName := ⟨RX3, "roomRefusalIf", "(III)I"⟩
abbrev cX3_copyFrom : ByteArray := prog_5_method_10_code
def yX3_copyFrom : MethodName := ⟨RX3, "copyFrom", "(LTheatreSeasons$Productions;)V"⟩
def RX4 : String := "TheatreSeasons$Requests"
def TX4 : u_T := fun k => match k with
  | 0 => ("TheatreSeasons$Requests", "count", "I", false)
  | 1 => ("TheatreSeasons$Requests", "performances", "LTheatreSeasons$Row;", true)
  | 2 => ("TheatreSeasons$Requests", "seats", "LTheatreSeasons$Row;", true)
  | _ => ("TheatreSeasons$Requests", "priorities", "LTheatreSeasons$Row;", true)
def tyX4 : Nat → FieldType := fun k => match k with
  | 0 => .int
  | 1 => .object "TheatreSeasons$Row"
  | 2 => .object "TheatreSeasons$Row"
  | _ => .object "TheatreSeasons$Row"
abbrev wsX40 : List Cond := u_ws RX4 TX4 4
theorem nmX4 : ∀ a, a < 4 → ∀ b, b < 4 → a ≠ b → (TX4 a).2.1 ≠ (TX4 b).2.1 := by decide +kernel
theorem tyX4_ok : ∀ k, k < 4 → parseFieldDescriptor (TX4 k).2.2.1 = some (tyX4 k) := by decide +kernel
abbrev cX4_init : ByteArray := prog_6_method_1_code
def yX4_init : MethodName := ⟨RX4, "<init>", "()V"⟩
abbrev cX4_countFor : ByteArray := prog_6_method_2_code
def yX4_countFor : MethodName := ⟨RX4, "countFor", "(I)I"⟩
abbrev cX4_find : ByteArray := prog_6_method_3_code
def yX4_find : MethodName := ⟨RX4, "find", "(II)I"⟩
abbrev cX4_add : ByteArray := prog_6_method_4_code
def yX4_add : MethodName := ⟨RX4, "add", "(III)I"⟩
abbrev cX4_copyFrom : ByteArray := prog_6_method_7_code
def yX4_copyFrom : MethodName := ⟨RX4, "copyFrom", "(LTheatreSeasons$Requests;)V"⟩
def RX5 : String := "TheatreSeasons$Row"
def TX5 : u_T := fun k => match k with
  | _ => ("TheatreSeasons$Row", "cells", "[I", true)
def tyX5 : Nat → FieldType := fun k => match k with
  | _ => .array .int
abbrev wsX50 : List Cond := u_ws RX5 TX5 1
theorem nmX5 : ∀ a, a < 1 → ∀ b, b < 1 → a ≠ b → (TX5 a).2.1 ≠ (TX5 b).2.1 := by decide +kernel
theorem tyX5_ok : ∀ k, k < 1 → parseFieldDescriptor (TX5 k).2.2.1 = some (tyX5 k) := by decide +kernel
abbrev cX5_init : ByteArray := prog_7_method_1_code
def yX5_init : MethodName := ⟨RX5, "<init>", "(I)V"⟩
abbrev cX5_get : ByteArray := prog_7_method_2_code
def yX5_get : MethodName := ⟨RX5, "get", "(I)I"⟩
abbrev cX5_set : ByteArray := prog_7_method_3_code
def yX5_set : MethodName := ⟨RX5, "set", "(II)V"⟩
abbrev cX5_add : ByteArray := prog_7_method_4_code
def yX5_add : MethodName := ⟨RX5, "add", "(II)V"⟩
abbrev cX5_insertAt : ByteArray := prog_7_method_5_code
def yX5_insertAt : MethodName := ⟨RX5, "insertAt", "(II)V"⟩
abbrev cX5_copyFrom : ByteArray := prog_7_method_7_code
def yX5_copyFrom : MethodName := ⟨RX5, "copyFrom", "(LTheatreSeasons$Row;)V"⟩
def RX6 : String := "TheatreSeasons$Season"
def TX6 : u_T := fun k => match k with
  | 0 => ("TheatreSeasons$Season", "stageSeats", "LTheatreSeasons$Row;", true)
  | 1 => ("TheatreSeasons$Season", "staff", "I", false)
  | 2 => ("TheatreSeasons$Season", "room", "I", false)
  | 3 => ("TheatreSeasons$Season", "productions", "LTheatreSeasons$Productions;", true)
  | 4 => ("TheatreSeasons$Season", "performances", "LTheatreSeasons$Performances;", true)
  | 5 => ("TheatreSeasons$Season", "subscriptions", "LTheatreSeasons$Subscriptions;", true)
  | _ => ("TheatreSeasons$Season", "requests", "LTheatreSeasons$Requests;", true)
def tyX6 : Nat → FieldType := fun k => match k with
  | 0 => .object "TheatreSeasons$Row"
  | 1 => .int
  | 2 => .int
  | 3 => .object "TheatreSeasons$Productions"
  | 4 => .object "TheatreSeasons$Performances"
  | 5 => .object "TheatreSeasons$Subscriptions"
  | _ => .object "TheatreSeasons$Requests"
abbrev wsX60 : List Cond := u_ws RX6 TX6 7
theorem nmX6 : ∀ a, a < 7 → ∀ b, b < 7 → a ≠ b → (TX6 a).2.1 ≠ (TX6 b).2.1 := by decide +kernel
theorem tyX6_ok : ∀ k, k < 7 → parseFieldDescriptor (TX6 k).2.2.1 = some (tyX6 k) := by decide +kernel
abbrev cX6_init : ByteArray := prog_8_method_1_code
def yX6_init : MethodName := ⟨RX6, "<init>", "()V"⟩
abbrev cX6_copyFrom : ByteArray := prog_8_method_2_code
def yX6_copyFrom : MethodName := ⟨RX6, "copyFrom", "(LTheatreSeasons$Season;)V"⟩
abbrev cX6_makeProduction : ByteArray := prog_8_method_6_code
def yX6_makeProduction : MethodName := ⟨RX6, "makeProduction", "(IIII)I"⟩
abbrev cX6_makePerformance : ByteArray := prog_8_method_7_code
def yX6_makePerformance : MethodName := ⟨RX6, "makePerformance", "(III)I"⟩
abbrev cX6_datesWith : ByteArray := prog_8_method_10_code
def yX6_datesWith : MethodName := ⟨RX6, "datesWith", "(III)I"⟩
abbrev cX6_placingRefusal : ByteArray := prog_8_method_11_code
def yX6_placingRefusal : MethodName := ⟨RX6, "placingRefusal", "(IIII)I"⟩
abbrev cX6_sellSeats : ByteArray := prog_8_method_13_code
def yX6_sellSeats : MethodName := ⟨RX6, "sellSeats", "(II)I"⟩
abbrev cX6_makeRequest : ByteArray := prog_8_method_15_code
def yX6_makeRequest : MethodName := ⟨RX6, "makeRequest", "(III)I"⟩
abbrev cX6_makeSubscription : ByteArray := prog_8_method_18_code
def yX6_makeSubscription : MethodName := ⟨RX6, "makeSubscription", "(I)I"⟩
abbrev cX6_holdSeats : ByteArray := prog_8_method_19_code
def yX6_holdSeats : MethodName := ⟨RX6, "holdSeats", "(II)I"⟩
abbrev cX6_seatsAt : ByteArray := prog_8_method_23_code
def yX6_seatsAt : MethodName := ⟨RX6, "seatsAt", "(II)I"⟩
abbrev cX6_seatsOfAll : ByteArray := prog_8_method_24_code
def yX6_seatsOfAll : MethodName := ⟨RX6, "seatsOfAll", "(I)I"⟩
abbrev cX6_seatsOnStage : ByteArray := prog_8_method_25_code
def yX6_seatsOnStage : MethodName := ⟨RX6, "seatsOnStage", "(III)I"⟩
abbrev cX6_seatsOfProduction : ByteArray := prog_8_method_26_code
def yX6_seatsOfProduction : MethodName := ⟨RX6, "seatsOfProduction", "(IZ)I"⟩
abbrev cX6_takingsOf : ByteArray := prog_8_method_27_code
def yX6_takingsOf : MethodName := ⟨RX6, "takingsOf", "(I)I"⟩
abbrev cX6_takingsOfAll : ByteArray := prog_8_method_28_code
def yX6_takingsOfAll : MethodName := ⟨RX6, "takingsOfAll", "()I"⟩
def RX7 : String := "TheatreSeasons$Subscriptions"
def TX7 : u_T := fun k => match k with
  | 0 => ("TheatreSeasons$Subscriptions", "count", "I", false)
  | 1 => ("TheatreSeasons$Subscriptions", "seats", "LTheatreSeasons$Row;", true)
  | _ => ("TheatreSeasons$Subscriptions", "exchanges", "LTheatreSeasons$Row;", true)
def tyX7 : Nat → FieldType := fun k => match k with
  | 0 => .int
  | 1 => .object "TheatreSeasons$Row"
  | _ => .object "TheatreSeasons$Row"
abbrev wsX70 : List Cond := u_ws RX7 TX7 3
theorem nmX7 : ∀ a, a < 3 → ∀ b, b < 3 → a ≠ b → (TX7 a).2.1 ≠ (TX7 b).2.1 := by decide +kernel
theorem tyX7_ok : ∀ k, k < 3 → parseFieldDescriptor (TX7 k).2.2.1 = some (tyX7 k) := by decide +kernel
abbrev cX7_init : ByteArray := prog_9_method_1_code
def yX7_init : MethodName := ⟨RX7, "<init>", "()V"⟩
abbrev cX7_has : ByteArray := prog_9_method_2_code
def yX7_has : MethodName := ⟨RX7, "has", "(I)Z"⟩
abbrev cX7_add : ByteArray := prog_9_method_3_code
def yX7_add : MethodName := ⟨RX7, "add", "(I)I"⟩
abbrev cX7_copyFrom : ByteArray := prog_9_method_4_code
def yX7_copyFrom : MethodName := ⟨RX7, "copyFrom", "(LTheatreSeasons$Subscriptions;)V"⟩
def RX8 : String := "TheatreSeasons"
def TX8 : u_T := fun k => match k with
  | 0 => ("TheatreSeasons", "season", "LTheatreSeasons$Season;", true)
  | 1 => ("TheatreSeasons", "saved", "LTheatreSeasons$Season;", true)
  | 2 => ("TheatreSeasons", "history", "LTheatreSeasons$History;", true)
  | 3 => ("TheatreSeasons", "input", "LTheatreSeasons$Input;", true)
  | 4 => ("TheatreSeasons", "isSaved", "Z", false)
  | 5 => ("TheatreSeasons", "keptReason", "I", false)
  | 6 => ("TheatreSeasons", "keptDetail", "I", false)
  | _ => ("TheatreSeasons", "keptPosition", "I", false)
def tyX8 : Nat → FieldType := fun k => match k with
  | 0 => .object "TheatreSeasons$Season"
  | 1 => .object "TheatreSeasons$Season"
  | 2 => .object "TheatreSeasons$History"
  | 3 => .object "TheatreSeasons$Input"
  | 4 => .boolean
  | 5 => .int
  | 6 => .int
  | _ => .int
abbrev wsX80 : List Cond := u_ws RX8 TX8 8
theorem nmX8 : ∀ a, a < 8 → ∀ b, b < 8 → a ≠ b → (TX8 a).2.1 ≠ (TX8 b).2.1 := by decide +kernel
theorem tyX8_ok : ∀ k, k < 8 → parseFieldDescriptor (TX8 k).2.2.1 = some (tyX8 k) := by decide +kernel
abbrev cX8_init : ByteArray := prog_1_method_1_code
def yX8_init : MethodName := ⟨RX8, "<init>", "()V"⟩
abbrev cX8_addProduction : ByteArray := prog_1_method_5_code
def yX8_addProduction : MethodName := ⟨RX8, "addProduction", "(IIII)I"⟩
abbrev cX8_production : ByteArray := prog_1_method_6_code
def yX8_production : MethodName := ⟨RX8, "production", "(II)I"⟩
abbrev cX8_perform : ByteArray := prog_1_method_7_code
def yX8_perform : MethodName := ⟨RX8, "perform", "(III)I"⟩
abbrev cX8_performance : ByteArray := prog_1_method_10_code
def yX8_performance : MethodName := ⟨RX8, "performance", "(II)I"⟩
abbrev cX8_on : ByteArray := prog_1_method_11_code
def yX8_on : MethodName := ⟨RX8, "on", "(II)I"⟩
abbrev cX8_load : ByteArray := prog_1_method_14_code
def yX8_load : MethodName := ⟨RX8, "load", "(I)I"⟩
abbrev cX8_peak : ByteArray := prog_1_method_15_code
def yX8_peak : MethodName := ⟨RX8, "peak", "()I"⟩
abbrev cX8_sell : ByteArray := prog_1_method_16_code
def yX8_sell : MethodName := ⟨RX8, "sell", "(II)I"⟩
abbrev cX8_request : ByteArray := prog_1_method_18_code
def yX8_request : MethodName := ⟨RX8, "request", "(III)I"⟩
abbrev cX8_waiting : ByteArray := prog_1_method_19_code
def yX8_waiting : MethodName := ⟨RX8, "waiting", "(IIZ)I"⟩
abbrev cX8_seats : ByteArray := prog_1_method_20_code
def yX8_seats : MethodName := ⟨RX8, "seats", "(II)I"⟩
abbrev cX8_seatsAgain : ByteArray := prog_1_method_21_code
def yX8_seatsAgain : MethodName := ⟨RX8, "seatsAgain", "(II)I"⟩
abbrev cX8_subscribe : ByteArray := prog_1_method_22_code
def yX8_subscribe : MethodName := ⟨RX8, "subscribe", "(I)I"⟩
abbrev cX8_hold : ByteArray := prog_1_method_23_code
def yX8_hold : MethodName := ⟨RX8, "hold", "(II)I"⟩
abbrev cX8_subscription : ByteArray := prog_1_method_26_code
def yX8_subscription : MethodName := ⟨RX8, "subscription", "(II)I"⟩
abbrev cX8_partner : ByteArray := prog_1_method_27_code
def yX8_partner : MethodName := ⟨RX8, "partner", "(I)F"⟩
abbrev cX8_fullness : ByteArray := prog_1_method_28_code
def yX8_fullness : MethodName := ⟨RX8, "fullness", "(I)D"⟩
abbrev cX8_reason : ByteArray := prog_1_method_29_code
def yX8_reason : MethodName := ⟨RX8, "reason", "(Z)I"⟩
abbrev cX8_account : ByteArray := prog_1_method_30_code
def yX8_account : MethodName := ⟨RX8, "account", "(I)I"⟩
abbrev cX8_closeChange : ByteArray := prog_1_method_37_code
def yX8_closeChange : MethodName := ⟨RX8, "closeChange", "(I)I"⟩
abbrev cX8_keepRefusal : ByteArray := prog_1_method_38_code
def yX8_keepRefusal : MethodName := ⟨RX8, "keepRefusal", "(I)V"⟩
abbrev cX8_checkIndex : ByteArray := prog_1_method_39_code
def yX8_checkIndex : MethodName := ⟨RX8, "checkIndex", "(Z)V"⟩
abbrev cX8_checkArgument : ByteArray := prog_1_method_40_code
def yX8_checkArgument : MethodName := ⟨RX8, "checkArgument", "(Z)V"⟩
abbrev cX8_isWithin : ByteArray := prog_1_method_43_code
def yX8_isWithin : MethodName := ⟨RX8, "isWithin", "(III)Z"⟩
abbrev cX8_isStage : ByteArray := prog_1_method_44_code
def yX8_isStage : MethodName := ⟨RX8, "isStage", "(I)Z"⟩
abbrev cX8_isDate : ByteArray := prog_1_method_45_code
def yX8_isDate : MethodName := ⟨RX8, "isDate", "(I)Z"⟩
abbrev cX8_isSeatKind : ByteArray := prog_1_method_46_code
def yX8_isSeatKind : MethodName := ⟨RX8, "isSeatKind", "(I)Z"⟩
abbrev cX8_refusal : ByteArray := prog_1_method_47_code
def yX8_refusal : MethodName := ⟨RX8, "refusal", "(II)I"⟩
abbrev cX8_isInSet : ByteArray := prog_1_method_48_code
def yX8_isInSet : MethodName := ⟨RX8, "isInSet", "(II)Z"⟩
abbrev cX8_firstDate : ByteArray := prog_1_method_49_code
def yX8_firstDate : MethodName := ⟨RX8, "firstDate", "(I)I"⟩
abbrev cX8_lastDate : ByteArray := prog_1_method_50_code
def yX8_lastDate : MethodName := ⟨RX8, "lastDate", "(I)I"⟩
def RX9 : String := "TheatreSeasonsModel"
def TX9 : u_T := fun k => match k with
  | _ => ("", "", "", false)
def tyX9 : Nat → FieldType := fun k => match k with
  | _ => .int
abbrev wsX90 : List Cond := u_ws RX9 TX9 0
theorem nmX9 : ∀ a, a < 0 → ∀ b, b < 0 → a ≠ b → (TX9 a).2.1 ≠ (TX9 b).2.1 := by decide +kernel
theorem tyX9_ok : ∀ k, k < 0 → parseFieldDescriptor (TX9 k).2.2.1 = some (tyX9 k) := by decide +kernel
def RJx145de : String := "java/io/Serializable"
def TJx145de : u_T := fun k => match k with
  | _ => ("", "", "", false)
def tyJx145de : Nat → FieldType := fun k => match k with
  | _ => .int
theorem nmJx145de : ∀ a, a < 0 → ∀ b, b < 0 → a ≠ b → (TJx145de a).2.1 ≠ (TJx145de b).2.1 := by decide +kernel
theorem tyJx145de_ok : ∀ k, k < 0 → parseFieldDescriptor (TJx145de k).2.2.1 = some (tyJx145de k) := by decide +kernel
def RJ6 : String := "java/lang/Integer"
def TJ6 : u_T := fun k => match k with
  | _ => ("", "", "", false)
def tyJ6 : Nat → FieldType := fun k => match k with
  | _ => .int
theorem nmJ6 : ∀ a, a < 0 → ∀ b, b < 0 → a ≠ b → (TJ6 a).2.1 ≠ (TJ6 b).2.1 := by decide +kernel
theorem tyJ6_ok : ∀ k, k < 0 → parseFieldDescriptor (TJ6 k).2.2.1 = some (tyJ6 k) := by decide +kernel
abbrev cJ6_bitCount_0f7a4 : ByteArray := prog_18_method_49_code
def yJ6_bitCount_0f7a4 : MethodName := ⟨RJ6, "bitCount", "(I)I"⟩
def RJ9 : String := "java/lang/Math"
def TJ9 : u_T := fun k => match k with
  | _ => ("", "", "", false)
def tyJ9 : Nat → FieldType := fun k => match k with
  | _ => .int
theorem nmJ9 : ∀ a, a < 0 → ∀ b, b < 0 → a ≠ b → (TJ9 a).2.1 ≠ (TJ9 b).2.1 := by decide +kernel
theorem tyJ9_ok : ∀ k, k < 0 → parseFieldDescriptor (TJ9 k).2.2.1 = some (tyJ9 k) := by decide +kernel
abbrev cJ9_max_7cf53 : ByteArray := prog_19_method_65_code
def yJ9_max_7cf53 : MethodName := ⟨RJ9, "max", "(II)I"⟩
abbrev cJ9_min_7cf53 : ByteArray := prog_19_method_69_code
def yJ9_min_7cf53 : MethodName := ⟨RJ9, "min", "(II)I"⟩
def RJ0 : String := "java/lang/String"
def TJ0 : u_T := fun k => match k with
  | _ => ("", "", "", false)
def tyJ0 : Nat → FieldType := fun k => match k with
  | _ => .int
theorem nmJ0 : ∀ a, a < 0 → ∀ b, b < 0 → a ≠ b → (TJ0 a).2.1 ≠ (TJ0 b).2.1 := by decide +kernel
theorem tyJ0_ok : ∀ k, k < 0 → parseFieldDescriptor (TJ0 k).2.2.1 = some (tyJ0 k) := by decide +kernel
def RJ10 : String := "java/lang/System"
def TJ10 : u_T := fun k => match k with
  | _ => ("", "", "", false)
def tyJ10 : Nat → FieldType := fun k => match k with
  | _ => .int
theorem nmJ10 : ∀ a, a < 0 → ∀ b, b < 0 → a ≠ b → (TJ10 a).2.1 ≠ (TJ10 b).2.1 := by decide +kernel
theorem tyJ10_ok : ∀ k, k < 0 → parseFieldDescriptor (TJ10 k).2.2.1 = some (tyJ10 k) := by decide +kernel
def RL : String := "TheatreSeasonsLaw"
abbrev cL_cell : ByteArray := method_2_code
def yL_cell : MethodName := ⟨RL, "cell", "([II)I"⟩
abbrev cL_some : ByteArray := method_3_code
def yL_some : MethodName := ⟨RL, "some", "([III)I"⟩
abbrev cL_perform : ByteArray := method_4_code
def yL_perform : MethodName := ⟨RL, "perform", "(LTheatreSeasons;III)I"⟩
abbrev cL_sell : ByteArray := method_7_code
def yL_sell : MethodName := ⟨RL, "sell", "(LTheatreSeasons;II)I"⟩
abbrev cL_request : ByteArray := method_9_code
def yL_request : MethodName := ⟨RL, "request", "(LTheatreSeasons;III)I"⟩
abbrev cL_hold : ByteArray := method_10_code
def yL_hold : MethodName := ⟨RL, "hold", "(LTheatreSeasons;II)I"⟩
abbrev cL_build : ByteArray := method_13_code
def yL_build : MethodName := ⟨RL, "build", "(LTheatreSeasons;[I)V"⟩
abbrev cL_law : ByteArray := code
def yL_law : MethodName := ⟨RL, "law", "([I)Z"⟩
abbrev vwCl : List vw_C := [(RX0, TX0, 2), (RX0, TX0, 2), (RX0, TX0, 2), (RX1, TX1, 5), (RX2, TX2, 7), (RX3, TX3, 6), (RX4, TX4, 4), (RX5, TX5, 1), (RX6, TX6, 7), (RX7, TX7, 3), (RX8, TX8, 8)]
