def RX0 : String := "ClosureRows$Closures"
def RX1 : String := "ClosureRows$Notices"
def RX2 : String := "ClosureRows$Routes"
def RX3 : String := "ClosureRows"
def RX4 : String := "ClosureRowsModel"
def RJ9 : String := "java/lang/Math"
def RL : String := "ClosureRowsLaw"
def TX0 : u_T := fun k => match k with
  | 0 => ("ClosureRows$Closures", "kinds", "[I", true)
  | 1 => ("ClosureRows$Closures", "pieces", "[I", true)
  | 2 => ("ClosureRows$Closures", "sides", "[I", true)
  | 3 => ("ClosureRows$Closures", "starts", "[I", true)
  | 4 => ("ClosureRows$Closures", "ends", "[I", true)
  | 5 => ("ClosureRows$Closures", "xs", "[I", true)
  | 6 => ("ClosureRows$Closures", "answers", "[I", true)
  | 7 => ("ClosureRows$Closures", "words", "[I", true)
  | 8 => ("ClosureRows$Closures", "incidents", "[Z", true)
  | _ => ("ClosureRows$Closures", "count", "I", false)
def tyX0 : Nat → FieldType := fun k => match k with
  | 0 => .array .int
  | 1 => .array .int
  | 2 => .array .int
  | 3 => .array .int
  | 4 => .array .int
  | 5 => .array .int
  | 6 => .array .int
  | 7 => .array .int
  | 8 => .array .boolean
  | _ => .int
theorem nmX0 : ∀ a, a < 10 → ∀ b, b < 10 → a ≠ b → (TX0 a).2.1 ≠ (TX0 b).2.1 := by decide +kernel
theorem tyX0_ok : ∀ k, k < 10 → parseFieldDescriptor (TX0 k).2.2.1 = some (tyX0 k) := by decide +kernel
def TX1 : u_T := fun k => match k with
  | 0 => ("ClosureRows$Notices", "row", "[I", true)
  | _ => ("ClosureRows$Notices", "total", "I", false)
def tyX1 : Nat → FieldType := fun k => match k with
  | 0 => .array .int
  | _ => .int
theorem nmX1 : ∀ a, a < 2 → ∀ b, b < 2 → a ≠ b → (TX1 a).2.1 ≠ (TX1 b).2.1 := by decide +kernel
theorem tyX1_ok : ∀ k, k < 2 → parseFieldDescriptor (TX1 k).2.2.1 = some (tyX1 k) := by decide +kernel
def TX2 : u_T := fun k => match k with
  | 0 => ("ClosureRows$Routes", "places", "[I", true)
  | _ => ("ClosureRows$Routes", "lengths", "[I", true)
def tyX2 : Nat → FieldType := fun k => match k with
  | 0 => .array .int
  | _ => .array .int
theorem nmX2 : ∀ a, a < 2 → ∀ b, b < 2 → a ≠ b → (TX2 a).2.1 ≠ (TX2 b).2.1 := by decide +kernel
theorem tyX2_ok : ∀ k, k < 2 → parseFieldDescriptor (TX2 k).2.2.1 = some (tyX2 k) := by decide +kernel
def TX3 : u_T := fun k => match k with
  | 0 => ("ClosureRows", "closures", "LClosureRows$Closures;", true)
  | 1 => ("ClosureRows", "routes", "LClosureRows$Routes;", true)
  | 2 => ("ClosureRows", "notices", "LClosureRows$Notices;", true)
  | 3 => ("ClosureRows", "wasClosed", "[Z", true)
  | 4 => ("ClosureRows", "nowClosed", "[Z", true)
  | _ => ("ClosureRows", "now", "I", false)
def tyX3 : Nat → FieldType := fun k => match k with
  | 0 => .object "ClosureRows$Closures"
  | 1 => .object "ClosureRows$Routes"
  | 2 => .object "ClosureRows$Notices"
  | 3 => .array .boolean
  | 4 => .array .boolean
  | _ => .int
theorem nmX3 : ∀ a, a < 6 → ∀ b, b < 6 → a ≠ b → (TX3 a).2.1 ≠ (TX3 b).2.1 := by decide +kernel
theorem tyX3_ok : ∀ k, k < 6 → parseFieldDescriptor (TX3 k).2.2.1 = some (tyX3 k) := by decide +kernel
def TX4 : u_T := fun k => match k with
  | 0 => ("ClosureRowsModel", "thrown", "I", false)
  | 1 => ("ClosureRowsModel", "clock", "I", false)
  | 2 => ("ClosureRowsModel", "many", "I", false)
  | 3 => ("ClosureRowsModel", "kind", "[I", true)
  | 4 => ("ClosureRowsModel", "piece", "[I", true)
  | 5 => ("ClosureRowsModel", "sides", "[I", true)
  | 6 => ("ClosureRowsModel", "from", "[I", true)
  | 7 => ("ClosureRowsModel", "to", "[I", true)
  | 8 => ("ClosureRowsModel", "number", "[I", true)
  | 9 => ("ClosureRowsModel", "answered", "[I", true)
  | 10 => ("ClosureRowsModel", "lifted", "[I", true)
  | 11 => ("ClosureRowsModel", "word", "[I", true)
  | 12 => ("ClosureRowsModel", "open", "[Z", true)
  | 13 => ("ClosureRowsModel", "steps", "[I", true)
  | 14 => ("ClosureRowsModel", "step", "[I", true)
  | 15 => ("ClosureRowsModel", "was", "[Z", true)
  | 16 => ("ClosureRowsModel", "notices", "I", false)
  | _ => ("ClosureRowsModel", "told", "[I", true)
def tyX4 : Nat → FieldType := fun k => match k with
  | 0 => .int
  | 1 => .int
  | 2 => .int
  | 3 => .array .int
  | 4 => .array .int
  | 5 => .array .int
  | 6 => .array .int
  | 7 => .array .int
  | 8 => .array .int
  | 9 => .array .int
  | 10 => .array .int
  | 11 => .array .int
  | 12 => .array .boolean
  | 13 => .array .int
  | 14 => .array .int
  | 15 => .array .boolean
  | 16 => .int
  | _ => .array .int
theorem nmX4 : ∀ a, a < 18 → ∀ b, b < 18 → a ≠ b → (TX4 a).2.1 ≠ (TX4 b).2.1 := by decide +kernel
theorem tyX4_ok : ∀ k, k < 18 → parseFieldDescriptor (TX4 k).2.2.1 = some (tyX4 k) := by decide +kernel
abbrev vwCl : List vw_C := [(RX0, TX0, 10), (RX1, TX1, 2), (RX2, TX2, 2), (RX3, TX3, 6), (RX4, TX4, 18)]
abbrev cX0_init : ByteArray := prog_2_method_1_code
def yX0_init : MethodName := ⟨RX0, "<init>", "()V"⟩
abbrev cX0_isFull : ByteArray := prog_2_method_2_code
def yX0_isFull : MethodName := ⟨RX0, "isFull", "()Z"⟩
abbrev cX0_has : ByteArray := prog_2_method_3_code
def yX0_has : MethodName := ⟨RX0, "has", "(I)Z"⟩
abbrev cX0_add : ByteArray := prog_2_method_4_code
def yX0_add : MethodName := ⟨RX0, "add", "(IIIIII)I"⟩
abbrev cX0_awaitsAnswer : ByteArray := prog_2_method_5_code
def yX0_awaitsAnswer : MethodName := ⟨RX0, "awaitsAnswer", "(I)Z"⟩
abbrev cX0_setAnswer : ByteArray := prog_2_method_6_code
def yX0_setAnswer : MethodName := ⟨RX0, "setAnswer", "(IZ)V"⟩
abbrev cX0_setIncident : ByteArray := prog_2_method_7_code
def yX0_setIncident : MethodName := ⟨RX0, "setIncident", "(IZ)V"⟩
abbrev cX0_canBeLifted : ByteArray := prog_2_method_8_code
def yX0_canBeLifted : MethodName := ⟨RX0, "canBeLifted", "(II)Z"⟩
abbrev cX0_giveWord : ByteArray := prog_2_method_9_code
def yX0_giveWord : MethodName := ⟨RX0, "giveWord", "(II)Z"⟩
abbrev cX0_endAt : ByteArray := prog_2_method_10_code
def yX0_endAt : MethodName := ⟨RX0, "endAt", "(II)V"⟩
abbrev cX0_isClosedAt : ByteArray := prog_2_method_11_code
def yX0_isClosedAt : MethodName := ⟨RX0, "isClosedAt", "(II)Z"⟩
abbrev cX0_markClosed : ByteArray := prog_2_method_12_code
def yX0_markClosed : MethodName := ⟨RX0, "markClosed", "([ZI)V"⟩
abbrev cX0_markSides : ByteArray := prog_2_method_13_code
def yX0_markSides : MethodName := ⟨RX0, "markSides", "([ZI)V"⟩
abbrev cX0_percentAt : ByteArray := prog_2_method_14_code
def yX0_percentAt : MethodName := ⟨RX0, "percentAt", "(II)I"⟩
abbrev cX0_holdingAt : ByteArray := prog_2_method_15_code
def yX0_holdingAt : MethodName := ⟨RX0, "holdingAt", "(III)I"⟩
abbrev cX0_rankOf : ByteArray := prog_2_method_16_code
def yX0_rankOf : MethodName := ⟨RX0, "rankOf", "(III)I"⟩
abbrev cX0_endsAheadOf : ByteArray := prog_2_method_17_code
def yX0_endsAheadOf : MethodName := ⟨RX0, "endsAheadOf", "(II)Z"⟩
abbrev cX0_nextChange : ByteArray := prog_2_method_18_code
def yX0_nextChange : MethodName := ⟨RX0, "nextChange", "(I)I"⟩
abbrev cX0_nextChangeOn : ByteArray := prog_2_method_19_code
def yX0_nextChangeOn : MethodName := ⟨RX0, "nextChangeOn", "(II)I"⟩
abbrev cX0_changeOf : ByteArray := prog_2_method_20_code
def yX0_changeOf : MethodName := ⟨RX0, "changeOf", "(II)I"⟩
abbrev cX0_holdsOn : ByteArray := prog_2_method_21_code
def yX0_holdsOn : MethodName := ⟨RX0, "holdsOn", "(III)Z"⟩
abbrev cX0_covers : ByteArray := prog_2_method_22_code
def yX0_covers : MethodName := ⟨RX0, "covers", "(II)Z"⟩
abbrev cX0_holds : ByteArray := prog_2_method_23_code
def yX0_holds : MethodName := ⟨RX0, "holds", "(II)Z"⟩
abbrev cX0_minuteOfPeriod : ByteArray := prog_2_method_24_code
def yX0_minuteOfPeriod : MethodName := ⟨RX0, "minuteOfPeriod", "(II)I"⟩
abbrev cX1_init : ByteArray := prog_3_method_1_code
def yX1_init : MethodName := ⟨RX1, "<init>", "()V"⟩
abbrev cX1_total : ByteArray := prog_3_method_2_code
def yX1_total : MethodName := ⟨RX1, "total", "()I"⟩
abbrev cX1_isKept : ByteArray := prog_3_method_3_code
def yX1_isKept : MethodName := ⟨RX1, "isKept", "(I)Z"⟩
abbrev cX1_get : ByteArray := prog_3_method_4_code
def yX1_get : MethodName := ⟨RX1, "get", "(II)I"⟩
abbrev cX1_add : ByteArray := prog_3_method_5_code
def yX1_add : MethodName := ⟨RX1, "add", "(IIZI)V"⟩
abbrev cX1_firstOf : ByteArray := prog_3_method_6_code
def yX1_firstOf : MethodName := ⟨RX1, "firstOf", "(I)I"⟩
abbrev cX2_init : ByteArray := prog_4_method_1_code
def yX2_init : MethodName := ⟨RX2, "<init>", "()V"⟩
abbrev cX2_empty : ByteArray := prog_4_method_2_code
def yX2_empty : MethodName := ⟨RX2, "empty", "(I)V"⟩
abbrev cX2_isFull : ByteArray := prog_4_method_3_code
def yX2_isFull : MethodName := ⟨RX2, "isFull", "(I)Z"⟩
abbrev cX2_add : ByteArray := prog_4_method_4_code
def yX2_add : MethodName := ⟨RX2, "add", "(II)I"⟩
abbrev cX2_length : ByteArray := prog_4_method_5_code
def yX2_length : MethodName := ⟨RX2, "length", "(I)I"⟩
abbrev cX2_stepOf : ByteArray := prog_4_method_6_code
def yX2_stepOf : MethodName := ⟨RX2, "stepOf", "(II)I"⟩
abbrev cX2_leadsOver : ByteArray := prog_4_method_7_code
def yX2_leadsOver : MethodName := ⟨RX2, "leadsOver", "(II)Z"⟩
abbrev cX3_init : ByteArray := prog_1_method_1_code
def yX3_init : MethodName := ⟨RX3, "<init>", "()V"⟩
abbrev cX3_close : ByteArray := prog_1_method_2_code
def yX3_close : MethodName := ⟨RX3, "close", "(IIIIII)I"⟩
abbrev cX3_answer : ByteArray := prog_1_method_3_code
def yX3_answer : MethodName := ⟨RX3, "answer", "(IZ)V"⟩
abbrev cX3_lift : ByteArray := prog_1_method_4_code
def yX3_lift : MethodName := ⟨RX3, "lift", "(II)Z"⟩
abbrev cX3_incident : ByteArray := prog_1_method_5_code
def yX3_incident : MethodName := ⟨RX3, "incident", "(IZ)V"⟩
abbrev cX3_step : ByteArray := prog_1_method_6_code
def yX3_step : MethodName := ⟨RX3, "step", "(III)I"⟩
abbrev cX3_tick : ByteArray := prog_1_method_7_code
def yX3_tick : MethodName := ⟨RX3, "tick", "(I)I"⟩
abbrev cX3_clock : ByteArray := prog_1_method_8_code
def yX3_clock : MethodName := ⟨RX3, "clock", "()I"⟩
abbrev cX3_closed : ByteArray := prog_1_method_9_code
def yX3_closed : MethodName := ⟨RX3, "closed", "(III)Z"⟩
abbrev cX3_minutes : ByteArray := prog_1_method_10_code
def yX3_minutes : MethodName := ⟨RX3, "minutes", "(IIII)I"⟩
abbrev cX3_opens : ByteArray := prog_1_method_11_code
def yX3_opens : MethodName := ⟨RX3, "opens", "(III)I"⟩
abbrev cX3_reason : ByteArray := prog_1_method_12_code
def yX3_reason : MethodName := ⟨RX3, "reason", "(IIII)I"⟩
abbrev cX3_speed : ByteArray := prog_1_method_13_code
def yX3_speed : MethodName := ⟨RX3, "speed", "(III)I"⟩
abbrev cX3_notice : ByteArray := prog_1_method_14_code
def yX3_notice : MethodName := ⟨RX3, "notice", "(II)I"⟩
abbrev cX3_blocked : ByteArray := prog_1_method_15_code
def yX3_blocked : MethodName := ⟨RX3, "blocked", "(I)I"⟩
abbrev cX3_tellChanges : ByteArray := prog_1_method_16_code
def yX3_tellChanges : MethodName := ⟨RX3, "tellChanges", "()V"⟩
abbrev cX3_tellUnits : ByteArray := prog_1_method_17_code
def yX3_tellUnits : MethodName := ⟨RX3, "tellUnits", "(I)V"⟩
abbrev cX3_needClosure : ByteArray := prog_1_method_18_code
def yX3_needClosure : MethodName := ⟨RX3, "needClosure", "(I)V"⟩
abbrev cX3_needKind : ByteArray := prog_1_method_19_code
def yX3_needKind : MethodName := ⟨RX3, "needKind", "(II)V"⟩
abbrev cX3_needPiece : ByteArray := prog_1_method_20_code
def yX3_needPiece : MethodName := ⟨RX3, "needPiece", "(I)V"⟩
abbrev cX3_needPlace : ByteArray := prog_1_method_21_code
def yX3_needPlace : MethodName := ⟨RX3, "needPlace", "(II)I"⟩
abbrev cX3_needUnit : ByteArray := prog_1_method_22_code
def yX3_needUnit : MethodName := ⟨RX3, "needUnit", "(I)V"⟩
abbrev cX3_needMinute : ByteArray := prog_1_method_23_code
def yX3_needMinute : MethodName := ⟨RX3, "needMinute", "(I)V"⟩
abbrev cX3_needEnd : ByteArray := prog_1_method_24_code
def yX3_needEnd : MethodName := ⟨RX3, "needEnd", "(III)V"⟩
abbrev cX3_needX : ByteArray := prog_1_method_25_code
def yX3_needX : MethodName := ⟨RX3, "needX", "(II)V"⟩
abbrev cX3_isIncident : ByteArray := prog_1_method_26_code
def yX3_isIncident : MethodName := ⟨RX3, "isIncident", "(I)Z"⟩
abbrev cX3_hasEnd : ByteArray := prog_1_method_27_code
def yX3_hasEnd : MethodName := ⟨RX3, "hasEnd", "(I)Z"⟩
abbrev cX3_isTimetable : ByteArray := prog_1_method_28_code
def yX3_isTimetable : MethodName := ⟨RX3, "isTimetable", "(I)Z"⟩
abbrev cX3_periodOf : ByteArray := prog_1_method_29_code
def yX3_periodOf : MethodName := ⟨RX3, "periodOf", "(I)I"⟩
abbrev cX3_lengthOf : ByteArray := prog_1_method_30_code
def yX3_lengthOf : MethodName := ⟨RX3, "lengthOf", "(I)I"⟩
abbrev cX3_placeOf : ByteArray := prog_1_method_31_code
def yX3_placeOf : MethodName := ⟨RX3, "placeOf", "(II)I"⟩
abbrev cX3_pieceOf : ByteArray := prog_1_method_32_code
def yX3_pieceOf : MethodName := ⟨RX3, "pieceOf", "(I)I"⟩
abbrev cX3_sideOf : ByteArray := prog_1_method_33_code
def yX3_sideOf : MethodName := ⟨RX3, "sideOf", "(I)I"⟩
abbrev cX4_init : ByteArray := prog_6_method_1_code
def yX4_init : MethodName := ⟨RX4, "<init>", "()V"⟩
abbrev cX4_thrown : ByteArray := prog_6_method_2_code
def yX4_thrown : MethodName := ⟨RX4, "thrown", "()I"⟩
abbrev cX4_throwing : ByteArray := prog_6_method_3_code
def yX4_throwing : MethodName := ⟨RX4, "throwing", "(ZZZ)Z"⟩
abbrev cX4_in : ByteArray := prog_6_method_4_code
def yX4_in : MethodName := ⟨RX4, "in", "(III)Z"⟩
abbrev cX4_isPiece : ByteArray := prog_6_method_5_code
def yX4_isPiece : MethodName := ⟨RX4, "isPiece", "(I)Z"⟩
abbrev cX4_isSide : ByteArray := prog_6_method_6_code
def yX4_isSide : MethodName := ⟨RX4, "isSide", "(I)Z"⟩
abbrev cX4_isMinute : ByteArray := prog_6_method_7_code
def yX4_isMinute : MethodName := ⟨RX4, "isMinute", "(I)Z"⟩
abbrev cX4_isClosure : ByteArray := prog_6_method_8_code
def yX4_isClosure : MethodName := ⟨RX4, "isClosure", "(I)Z"⟩
abbrev cX4_holds : ByteArray := prog_6_method_9_code
def yX4_holds : MethodName := ⟨RX4, "holds", "(II)Z"⟩
abbrev cX4_isOn : ByteArray := prog_6_method_10_code
def yX4_isOn : MethodName := ⟨RX4, "isOn", "(III)Z"⟩
abbrev cX4_isClosed : ByteArray := prog_6_method_11_code
def yX4_isClosed : MethodName := ⟨RX4, "isClosed", "(III)Z"⟩
abbrev cX4_has : ByteArray := prog_6_method_12_code
def yX4_has : MethodName := ⟨RX4, "has", "(II)Z"⟩
abbrev cX4_look : ByteArray := prog_6_method_13_code
def yX4_look : MethodName := ⟨RX4, "look", "()V"⟩
abbrev cX4_isNumber : ByteArray := prog_6_method_14_code
def yX4_isNumber : MethodName := ⟨RX4, "isNumber", "(II)Z"⟩
abbrev cX4_close : ByteArray := prog_6_method_15_code
def yX4_close : MethodName := ⟨RX4, "close", "(IIIIII)I"⟩
abbrev cX4_answer : ByteArray := prog_6_method_16_code
def yX4_answer : MethodName := ⟨RX4, "answer", "(IZ)V"⟩
abbrev cX4_lift : ByteArray := prog_6_method_17_code
def yX4_lift : MethodName := ⟨RX4, "lift", "(II)Z"⟩
abbrev cX4_incident : ByteArray := prog_6_method_18_code
def yX4_incident : MethodName := ⟨RX4, "incident", "(IZ)V"⟩
abbrev cX4_step : ByteArray := prog_6_method_19_code
def yX4_step : MethodName := ⟨RX4, "step", "(III)I"⟩
abbrev cX4_tick : ByteArray := prog_6_method_20_code
def yX4_tick : MethodName := ⟨RX4, "tick", "(I)I"⟩
abbrev cX4_clock : ByteArray := prog_6_method_21_code
def yX4_clock : MethodName := ⟨RX4, "clock", "()I"⟩
abbrev cX4_closed : ByteArray := prog_6_method_22_code
def yX4_closed : MethodName := ⟨RX4, "closed", "(III)Z"⟩
abbrev cX4_minutes : ByteArray := prog_6_method_23_code
def yX4_minutes : MethodName := ⟨RX4, "minutes", "(IIII)I"⟩
abbrev cX4_opens : ByteArray := prog_6_method_24_code
def yX4_opens : MethodName := ⟨RX4, "opens", "(III)I"⟩
abbrev cX4_endOf : ByteArray := prog_6_method_25_code
def yX4_endOf : MethodName := ⟨RX4, "endOf", "(I)I"⟩
abbrev cX4_reason : ByteArray := prog_6_method_26_code
def yX4_reason : MethodName := ⟨RX4, "reason", "(IIII)I"⟩
abbrev cX4_speed : ByteArray := prog_6_method_27_code
def yX4_speed : MethodName := ⟨RX4, "speed", "(III)I"⟩
abbrev cX4_notice : ByteArray := prog_6_method_28_code
def yX4_notice : MethodName := ⟨RX4, "notice", "(II)I"⟩
abbrev cX4_blocked : ByteArray := prog_6_method_29_code
def yX4_blocked : MethodName := ⟨RX4, "blocked", "(I)I"⟩
abbrev cJ9_floorMod : ByteArray := prog_11_method_50_code
def yJ9_floorMod : MethodName := ⟨RJ9, "floorMod", "(II)I"⟩
abbrev cJ9_min : ByteArray := prog_11_method_69_code
def yJ9_min : MethodName := ⟨RJ9, "min", "(II)I"⟩
abbrev cL_close : ByteArray := method_3_code
def yL_close : MethodName := ⟨RL, "close", "(LClosureRows;IIIIII[J)I"⟩
abbrev cL_answer : ByteArray := method_4_code
def yL_answer : MethodName := ⟨RL, "answer", "(LClosureRows;IZ)I"⟩
abbrev cL_lift : ByteArray := method_5_code
def yL_lift : MethodName := ⟨RL, "lift", "(LClosureRows;II[J)I"⟩
abbrev cL_incident : ByteArray := method_6_code
def yL_incident : MethodName := ⟨RL, "incident", "(LClosureRows;IZ)I"⟩
abbrev cL_step : ByteArray := method_7_code
def yL_step : MethodName := ⟨RL, "step", "(LClosureRows;III[J)I"⟩
abbrev cL_tick : ByteArray := method_8_code
def yL_tick : MethodName := ⟨RL, "tick", "(LClosureRows;I[J)I"⟩
abbrev cL_closed : ByteArray := method_9_code
def yL_closed : MethodName := ⟨RL, "closed", "(LClosureRows;III[J)I"⟩
abbrev cL_minutes : ByteArray := method_10_code
def yL_minutes : MethodName := ⟨RL, "minutes", "(LClosureRows;IIII[J)I"⟩
abbrev cL_opens : ByteArray := method_11_code
def yL_opens : MethodName := ⟨RL, "opens", "(LClosureRows;III[J)I"⟩
abbrev cL_reason : ByteArray := method_12_code
def yL_reason : MethodName := ⟨RL, "reason", "(LClosureRows;IIII[J)I"⟩
abbrev cL_speed : ByteArray := method_13_code
def yL_speed : MethodName := ⟨RL, "speed", "(LClosureRows;III[J)I"⟩
abbrev cL_notice : ByteArray := method_14_code
def yL_notice : MethodName := ⟨RL, "notice", "(LClosureRows;II[J)I"⟩
abbrev cL_blocked : ByteArray := method_15_code
def yL_blocked : MethodName := ⟨RL, "blocked", "(LClosureRows;I[J)I"⟩
abbrev cL_law : ByteArray := code
def yL_law : MethodName := ⟨RL, "law", "([I)Z"⟩
def wBIG : List Cond := lw_tbl.filter goodWord
theorem wbg {w : Cond} {i : Nat} (h : lw_tbl[i]? = some w) (g : goodWord w = true) : w ∈ wBIG := List.mem_filter.mpr ⟨List.mem_of_getElem? h, g⟩
theorem wbig_sub {args : Array Value} {s : State} (ht : ∀ w ∈ lw_tbl, w.before args s = true) : ∀ w ∈ wBIG, w.before args s = true := fun w h => ht w (List.mem_filter.mp h).1
theorem wbig_at {args a' : Array Value} {s U : State} (ht : ∀ w ∈ wBIG, w.before args s = true) (hW : s.WarmedH U.vm) : ∀ w ∈ wBIG, w.before a' U = true := fun w h => word_at hW (good_of_word (List.mem_filter.mp h).2) (ht w h)
theorem inX0 : ∀ w ∈ u_ws RX0 TX0 10, w ∈ wBIG := by
  have h : (u_ws RX0 TX0 10).all (fun w => decide (w ∈ lw_tbl) && goodWord w) = true := by decide +kernel
  intro w hw
  have h1 := List.all_eq_true.mp h w hw
  simp only [Bool.and_eq_true, decide_eq_true_eq] at h1
  exact List.mem_filter.mpr h1
theorem inX1 : ∀ w ∈ u_ws RX1 TX1 2, w ∈ wBIG := by
  have h : (u_ws RX1 TX1 2).all (fun w => decide (w ∈ lw_tbl) && goodWord w) = true := by decide +kernel
  intro w hw
  have h1 := List.all_eq_true.mp h w hw
  simp only [Bool.and_eq_true, decide_eq_true_eq] at h1
  exact List.mem_filter.mpr h1
theorem inX2 : ∀ w ∈ u_ws RX2 TX2 2, w ∈ wBIG := by
  have h : (u_ws RX2 TX2 2).all (fun w => decide (w ∈ lw_tbl) && goodWord w) = true := by decide +kernel
  intro w hw
  have h1 := List.all_eq_true.mp h w hw
  simp only [Bool.and_eq_true, decide_eq_true_eq] at h1
  exact List.mem_filter.mpr h1
theorem inX3 : ∀ w ∈ u_ws RX3 TX3 6, w ∈ wBIG := by
  have h : (u_ws RX3 TX3 6).all (fun w => decide (w ∈ lw_tbl) && goodWord w) = true := by decide +kernel
  intro w hw
  have h1 := List.all_eq_true.mp h w hw
  simp only [Bool.and_eq_true, decide_eq_true_eq] at h1
  exact List.mem_filter.mpr h1
theorem inX4 : ∀ w ∈ u_ws RX4 TX4 18, w ∈ wBIG := by
  have h : (u_ws RX4 TX4 18).all (fun w => decide (w ∈ lw_tbl) && goodWord w) = true := by decide +kernel
  intro w hw
  have h1 := List.all_eq_true.mp h w hw
  simp only [Bool.and_eq_true, decide_eq_true_eq] at h1
  exact List.mem_filter.mpr h1
theorem wd20 : (Cond.initialized "ClosureRowsLaw" : Cond) ∈ wBIG := wbg (i := 20) (by decide +kernel) (by decide +kernel)
theorem wd21 : (Cond.initialized "ClosureRows" : Cond) ∈ wBIG := wbg (i := 21) (by decide +kernel) (by decide +kernel)
theorem wd22 : (Cond.initialized "ClosureRows$Closures" : Cond) ∈ wBIG := wbg (i := 22) (by decide +kernel) (by decide +kernel)
theorem wd23 : (Cond.initialized "ClosureRows$Routes" : Cond) ∈ wBIG := wbg (i := 23) (by decide +kernel) (by decide +kernel)
theorem wd24 : (Cond.initialized "ClosureRows$Notices" : Cond) ∈ wBIG := wbg (i := 24) (by decide +kernel) (by decide +kernel)
theorem wd25 : (Cond.initialized "ClosureRowsModel" : Cond) ∈ wBIG := wbg (i := 25) (by decide +kernel) (by decide +kernel)
theorem wd26 : (Cond.initialized "java/lang/Throwable" : Cond) ∈ wBIG := wbg (i := 26) (by decide +kernel) (by decide +kernel)
theorem wd27 : (Cond.initialized "java/lang/Exception" : Cond) ∈ wBIG := wbg (i := 27) (by decide +kernel) (by decide +kernel)
theorem wd28 : (Cond.initialized "java/lang/RuntimeException" : Cond) ∈ wBIG := wbg (i := 28) (by decide +kernel) (by decide +kernel)
theorem wd29 : (Cond.initialized "java/lang/IllegalArgumentException" : Cond) ∈ wBIG := wbg (i := 29) (by decide +kernel) (by decide +kernel)
theorem wd30 : (Cond.initialized "java/lang/IndexOutOfBoundsException" : Cond) ∈ wBIG := wbg (i := 30) (by decide +kernel) (by decide +kernel)
theorem wd31 : (Cond.initialized "java/lang/UnsupportedOperationException" : Cond) ∈ wBIG := wbg (i := 31) (by decide +kernel) (by decide +kernel)
theorem wd32 : (Cond.initialized "java/lang/Math" : Cond) ∈ wBIG := wbg (i := 32) (by decide +kernel) (by decide +kernel)
theorem wd33 : (Cond.initialized "java/lang/IllegalStateException" : Cond) ∈ wBIG := wbg (i := 33) (by decide +kernel) (by decide +kernel)
theorem wd34 : (Cond.classLink "ClosureRowsLaw" 8 "ClosureRows" : Cond) ∈ wBIG := wbg (i := 34) (by decide +kernel) (by decide +kernel)
theorem wd35 : (Cond.instantiable "ClosureRows" 6 : Cond) ∈ wBIG := wbg (i := 35) (by decide +kernel) (by decide +kernel)
theorem wd36 : (Cond.methodLink "ClosureRowsLaw" 64 ⟨"ClosureRows", "<init>", "()V"⟩ : Cond) ∈ wBIG := wbg (i := 36) (by decide +kernel) (by decide +kernel)
theorem wd37 : (Cond.instanceMethod ⟨"ClosureRows", "<init>", "()V"⟩ : Cond) ∈ wBIG := wbg (i := 37) (by decide +kernel) (by decide +kernel)
theorem wd38 : (Cond.code ⟨"ClosureRows", "<init>", "()V"⟩ prog_1_method_1_code 1 none : Cond) ∈ wBIG := wbg (i := 38) (by decide +kernel) (by decide +kernel)
theorem wd39 : (Cond.methodLink "ClosureRows" 3 ⟨"java/lang/Object", "<init>", "()V"⟩ : Cond) ∈ wBIG := wbg (i := 39) (by decide +kernel) (by decide +kernel)
theorem wd40 : (Cond.instanceMethod ⟨"java/lang/Object", "<init>", "()V"⟩ : Cond) ∈ wBIG := wbg (i := 40) (by decide +kernel) (by decide +kernel)
theorem wd42 : (Cond.classLink "ClosureRows" 9 "ClosureRows$Closures" : Cond) ∈ wBIG := wbg (i := 42) (by decide +kernel) (by decide +kernel)
theorem wd43 : (Cond.instantiable "ClosureRows$Closures" 10 : Cond) ∈ wBIG := wbg (i := 43) (by decide +kernel) (by decide +kernel)
theorem wd44 : (Cond.methodLink "ClosureRows" 11 ⟨"ClosureRows$Closures", "<init>", "()V"⟩ : Cond) ∈ wBIG := wbg (i := 44) (by decide +kernel) (by decide +kernel)
theorem wd45 : (Cond.instanceMethod ⟨"ClosureRows$Closures", "<init>", "()V"⟩ : Cond) ∈ wBIG := wbg (i := 45) (by decide +kernel) (by decide +kernel)
theorem wd46 : (Cond.code ⟨"ClosureRows$Closures", "<init>", "()V"⟩ prog_2_method_1_code 1 none : Cond) ∈ wBIG := wbg (i := 46) (by decide +kernel) (by decide +kernel)
theorem wd47 : (Cond.methodLink "ClosureRows$Closures" 3 ⟨"java/lang/Object", "<init>", "()V"⟩ : Cond) ∈ wBIG := wbg (i := 47) (by decide +kernel) (by decide +kernel)
theorem wd48 : (Cond.fieldLink "ClosureRows$Closures" 9 "ClosureRows$Closures" "kinds" "[I" : Cond) ∈ wBIG := wbg (i := 48) (by decide +kernel) (by decide +kernel)
theorem wd49 : (Cond.fieldLink "ClosureRows$Closures" 15 "ClosureRows$Closures" "pieces" "[I" : Cond) ∈ wBIG := wbg (i := 49) (by decide +kernel) (by decide +kernel)
theorem wd50 : (Cond.fieldLink "ClosureRows$Closures" 18 "ClosureRows$Closures" "sides" "[I" : Cond) ∈ wBIG := wbg (i := 50) (by decide +kernel) (by decide +kernel)
theorem wd51 : (Cond.fieldLink "ClosureRows$Closures" 21 "ClosureRows$Closures" "starts" "[I" : Cond) ∈ wBIG := wbg (i := 51) (by decide +kernel) (by decide +kernel)
theorem wd52 : (Cond.fieldLink "ClosureRows$Closures" 24 "ClosureRows$Closures" "ends" "[I" : Cond) ∈ wBIG := wbg (i := 52) (by decide +kernel) (by decide +kernel)
theorem wd53 : (Cond.fieldLink "ClosureRows$Closures" 27 "ClosureRows$Closures" "xs" "[I" : Cond) ∈ wBIG := wbg (i := 53) (by decide +kernel) (by decide +kernel)
theorem wd54 : (Cond.fieldLink "ClosureRows$Closures" 30 "ClosureRows$Closures" "answers" "[I" : Cond) ∈ wBIG := wbg (i := 54) (by decide +kernel) (by decide +kernel)
theorem wd55 : (Cond.fieldLink "ClosureRows$Closures" 33 "ClosureRows$Closures" "words" "[I" : Cond) ∈ wBIG := wbg (i := 55) (by decide +kernel) (by decide +kernel)
theorem wd56 : (Cond.fieldLink "ClosureRows$Closures" 36 "ClosureRows$Closures" "incidents" "[Z" : Cond) ∈ wBIG := wbg (i := 56) (by decide +kernel) (by decide +kernel)
theorem wd57 : (Cond.fieldLink "ClosureRows$Closures" 40 "ClosureRows$Closures" "count" "I" : Cond) ∈ wBIG := wbg (i := 57) (by decide +kernel) (by decide +kernel)
theorem wd79 : (Cond.arrayClass .int : Cond) ∈ wBIG := wbg (i := 79) (by decide +kernel) (by decide +kernel)
theorem wd80 : (Cond.arrayClass .boolean : Cond) ∈ wBIG := wbg (i := 80) (by decide +kernel) (by decide +kernel)
theorem wd81 : (Cond.classLink "ClosureRows" 16 "ClosureRows$Routes" : Cond) ∈ wBIG := wbg (i := 81) (by decide +kernel) (by decide +kernel)
theorem wd82 : (Cond.instantiable "ClosureRows$Routes" 2 : Cond) ∈ wBIG := wbg (i := 82) (by decide +kernel) (by decide +kernel)
theorem wd83 : (Cond.methodLink "ClosureRows" 18 ⟨"ClosureRows$Routes", "<init>", "()V"⟩ : Cond) ∈ wBIG := wbg (i := 83) (by decide +kernel) (by decide +kernel)
theorem wd84 : (Cond.instanceMethod ⟨"ClosureRows$Routes", "<init>", "()V"⟩ : Cond) ∈ wBIG := wbg (i := 84) (by decide +kernel) (by decide +kernel)
theorem wd85 : (Cond.code ⟨"ClosureRows$Routes", "<init>", "()V"⟩ prog_4_method_1_code 1 none : Cond) ∈ wBIG := wbg (i := 85) (by decide +kernel) (by decide +kernel)
theorem wd86 : (Cond.methodLink "ClosureRows$Routes" 3 ⟨"java/lang/Object", "<init>", "()V"⟩ : Cond) ∈ wBIG := wbg (i := 86) (by decide +kernel) (by decide +kernel)
theorem wd87 : (Cond.fieldLink "ClosureRows$Routes" 9 "ClosureRows$Routes" "places" "[I" : Cond) ∈ wBIG := wbg (i := 87) (by decide +kernel) (by decide +kernel)
theorem wd88 : (Cond.fieldLink "ClosureRows$Routes" 15 "ClosureRows$Routes" "lengths" "[I" : Cond) ∈ wBIG := wbg (i := 88) (by decide +kernel) (by decide +kernel)
theorem wd94 : (Cond.classLink "ClosureRows" 23 "ClosureRows$Notices" : Cond) ∈ wBIG := wbg (i := 94) (by decide +kernel) (by decide +kernel)
theorem wd95 : (Cond.instantiable "ClosureRows$Notices" 2 : Cond) ∈ wBIG := wbg (i := 95) (by decide +kernel) (by decide +kernel)
theorem wd96 : (Cond.methodLink "ClosureRows" 25 ⟨"ClosureRows$Notices", "<init>", "()V"⟩ : Cond) ∈ wBIG := wbg (i := 96) (by decide +kernel) (by decide +kernel)
theorem wd97 : (Cond.instanceMethod ⟨"ClosureRows$Notices", "<init>", "()V"⟩ : Cond) ∈ wBIG := wbg (i := 97) (by decide +kernel) (by decide +kernel)
theorem wd98 : (Cond.code ⟨"ClosureRows$Notices", "<init>", "()V"⟩ prog_3_method_1_code 1 none : Cond) ∈ wBIG := wbg (i := 98) (by decide +kernel) (by decide +kernel)
theorem wd99 : (Cond.methodLink "ClosureRows$Notices" 3 ⟨"java/lang/Object", "<init>", "()V"⟩ : Cond) ∈ wBIG := wbg (i := 99) (by decide +kernel) (by decide +kernel)
theorem wd100 : (Cond.fieldLink "ClosureRows$Notices" 9 "ClosureRows$Notices" "row" "[I" : Cond) ∈ wBIG := wbg (i := 100) (by decide +kernel) (by decide +kernel)
theorem wd101 : (Cond.fieldLink "ClosureRows$Notices" 15 "ClosureRows$Notices" "total" "I" : Cond) ∈ wBIG := wbg (i := 101) (by decide +kernel) (by decide +kernel)
theorem wd107 : (Cond.fieldLink "ClosureRows" 12 "ClosureRows" "closures" "LClosureRows$Closures;" : Cond) ∈ wBIG := wbg (i := 107) (by decide +kernel) (by decide +kernel)
theorem wd108 : (Cond.fieldLink "ClosureRows" 19 "ClosureRows" "routes" "LClosureRows$Routes;" : Cond) ∈ wBIG := wbg (i := 108) (by decide +kernel) (by decide +kernel)
theorem wd109 : (Cond.fieldLink "ClosureRows" 26 "ClosureRows" "notices" "LClosureRows$Notices;" : Cond) ∈ wBIG := wbg (i := 109) (by decide +kernel) (by decide +kernel)
theorem wd110 : (Cond.fieldLink "ClosureRows" 30 "ClosureRows" "wasClosed" "[Z" : Cond) ∈ wBIG := wbg (i := 110) (by decide +kernel) (by decide +kernel)
theorem wd111 : (Cond.fieldLink "ClosureRows" 34 "ClosureRows" "nowClosed" "[Z" : Cond) ∈ wBIG := wbg (i := 111) (by decide +kernel) (by decide +kernel)
theorem wd112 : (Cond.fieldLink "ClosureRows" 37 "ClosureRows" "now" "I" : Cond) ∈ wBIG := wbg (i := 112) (by decide +kernel) (by decide +kernel)
theorem wd126 : (Cond.methodLink "ClosureRowsLaw" 97 ⟨"ClosureRows", "clock", "()I"⟩ : Cond) ∈ wBIG := wbg (i := 126) (by decide +kernel) (by decide +kernel)
theorem wd127 : (Cond.instanceMethod ⟨"ClosureRows", "clock", "()I"⟩ : Cond) ∈ wBIG := wbg (i := 127) (by decide +kernel) (by decide +kernel)
theorem wd128 : (Cond.selects "ClosureRows" ⟨"ClosureRows", "clock", "()I"⟩ ⟨"ClosureRows", "clock", "()I"⟩ : Cond) ∈ wBIG := wbg (i := 128) (by decide +kernel) (by decide +kernel)
theorem wd129 : (Cond.code ⟨"ClosureRows", "clock", "()I"⟩ prog_1_method_8_code 1 (some .int) : Cond) ∈ wBIG := wbg (i := 129) (by decide +kernel) (by decide +kernel)
theorem wd130 : (Cond.methodLink "ClosureRowsLaw" 68 ⟨"ClosureRowsLaw", "close", "(LClosureRows;IIIIII[J)I"⟩ : Cond) ∈ wBIG := wbg (i := 130) (by decide +kernel) (by decide +kernel)
theorem wd131 : (Cond.static ⟨"ClosureRowsLaw", "close", "(LClosureRows;IIIIII[J)I"⟩ : Cond) ∈ wBIG := wbg (i := 131) (by decide +kernel) (by decide +kernel)
theorem wd132 : (Cond.codeWith ⟨"ClosureRowsLaw", "close", "(LClosureRows;IIIIII[J)I"⟩ method_3_code 9 (some .int) [(0, 18, 21, 13), (0, 18, 25, 15), (0, 18, 29, 17)] : Cond) ∈ wBIG := wbg (i := 132) (by decide +kernel) (by decide +kernel)
theorem wd133 : (Cond.classLink "ClosureRowsLaw" 13 "java/lang/IllegalArgumentException" : Cond) ∈ wBIG := wbg (i := 133) (by decide +kernel) (by decide +kernel)
theorem wd134 : (Cond.classLink "ClosureRowsLaw" 15 "java/lang/IndexOutOfBoundsException" : Cond) ∈ wBIG := wbg (i := 134) (by decide +kernel) (by decide +kernel)
theorem wd135 : (Cond.classLink "ClosureRowsLaw" 17 "java/lang/UnsupportedOperationException" : Cond) ∈ wBIG := wbg (i := 135) (by decide +kernel) (by decide +kernel)
theorem wd136 : (Cond.methodLink "ClosureRowsLaw" 7 ⟨"ClosureRows", "close", "(IIIIII)I"⟩ : Cond) ∈ wBIG := wbg (i := 136) (by decide +kernel) (by decide +kernel)
theorem wd137 : (Cond.instanceMethod ⟨"ClosureRows", "close", "(IIIIII)I"⟩ : Cond) ∈ wBIG := wbg (i := 137) (by decide +kernel) (by decide +kernel)
theorem wd138 : (Cond.selects "ClosureRows" ⟨"ClosureRows", "close", "(IIIIII)I"⟩ ⟨"ClosureRows", "close", "(IIIIII)I"⟩ : Cond) ∈ wBIG := wbg (i := 138) (by decide +kernel) (by decide +kernel)
theorem wd139 : (Cond.code ⟨"ClosureRows", "close", "(IIIIII)I"⟩ prog_1_method_2_code 8 (some .int) : Cond) ∈ wBIG := wbg (i := 139) (by decide +kernel) (by decide +kernel)
theorem wd140 : (Cond.methodLink "ClosureRows" 41 ⟨"ClosureRows", "needKind", "(II)V"⟩ : Cond) ∈ wBIG := wbg (i := 140) (by decide +kernel) (by decide +kernel)
theorem wd141 : (Cond.static ⟨"ClosureRows", "needKind", "(II)V"⟩ : Cond) ∈ wBIG := wbg (i := 141) (by decide +kernel) (by decide +kernel)
theorem wd142 : (Cond.code ⟨"ClosureRows", "needKind", "(II)V"⟩ prog_1_method_19_code 2 none : Cond) ∈ wBIG := wbg (i := 142) (by decide +kernel) (by decide +kernel)
theorem wd143 : (Cond.classLink "ClosureRows" 119 "java/lang/IllegalArgumentException" : Cond) ∈ wBIG := wbg (i := 143) (by decide +kernel) (by decide +kernel)
theorem wd144 : (Cond.instantiable "java/lang/IllegalArgumentException" 6 : Cond) ∈ wBIG := wbg (i := 144) (by decide +kernel) (by decide +kernel)
theorem wd164 : (Cond.fieldLink "java/lang/Throwable" 198 "java/lang/Throwable" "backtrace" "Ljava/lang/Object;" : Cond) ∈ wBIG := wbg (i := 164) (by decide +kernel) (by decide +kernel)
theorem wd166 : (Cond.instanceMethod ⟨"java/lang/Throwable", "<init>", "()V"⟩ : Cond) ∈ wBIG := wbg (i := 166) (by decide +kernel) (by decide +kernel)
theorem wd168 : (Cond.methodLink "java/lang/Throwable" 1 ⟨"java/lang/Object", "<init>", "()V"⟩ : Cond) ∈ wBIG := wbg (i := 168) (by decide +kernel) (by decide +kernel)
theorem wd169 : (Cond.fieldLink "java/lang/Throwable" 13 "java/lang/Throwable" "UNASSIGNED_STACK" "[Ljava/lang/StackTraceElement;" : Cond) ∈ wBIG := wbg (i := 169) (by decide +kernel) (by decide +kernel)
theorem wd171 : (Cond.fieldLink "java/lang/Throwable" 20 "java/lang/Throwable" "SUPPRESSED_SENTINEL" "Ljava/util/List;" : Cond) ∈ wBIG := wbg (i := 171) (by decide +kernel) (by decide +kernel)
theorem wd173 : (Cond.methodLink "java/lang/Throwable" 27 ⟨"java/lang/Throwable", "fillInStackTrace", "()Ljava/lang/Throwable;"⟩ : Cond) ∈ wBIG := wbg (i := 173) (by decide +kernel) (by decide +kernel)
theorem wd174 : (Cond.instanceMethod ⟨"java/lang/Throwable", "fillInStackTrace", "()Ljava/lang/Throwable;"⟩ : Cond) ∈ wBIG := wbg (i := 174) (by decide +kernel) (by decide +kernel)
theorem wd180 : (Cond.methodLink "java/lang/Throwable" 202 ⟨"java/lang/Throwable", "fillInStackTrace", "(I)Ljava/lang/Throwable;"⟩ : Cond) ∈ wBIG := wbg (i := 180) (by decide +kernel) (by decide +kernel)
theorem wd182 : (Cond.instanceMethod ⟨"java/lang/Throwable", "fillInStackTrace", "(I)Ljava/lang/Throwable;"⟩ : Cond) ∈ wBIG := wbg (i := 182) (by decide +kernel) (by decide +kernel)
theorem wd183 : (Cond.instantiable "java/lang/Throwable" 6 : Cond) ∈ wBIG := wbg (i := 183) (by decide +kernel) (by decide +kernel)
theorem wd186 : (Cond.methodLink "ClosureRows" 123 ⟨"java/lang/IllegalArgumentException", "<init>", "(Ljava/lang/String;)V"⟩ : Cond) ∈ wBIG := wbg (i := 186) (by decide +kernel) (by decide +kernel)
theorem wd187 : (Cond.instanceMethod ⟨"java/lang/IllegalArgumentException", "<init>", "(Ljava/lang/String;)V"⟩ : Cond) ∈ wBIG := wbg (i := 187) (by decide +kernel) (by decide +kernel)
theorem wd189 : (Cond.methodLink "java/lang/IllegalArgumentException" 7 ⟨"java/lang/RuntimeException", "<init>", "(Ljava/lang/String;)V"⟩ : Cond) ∈ wBIG := wbg (i := 189) (by decide +kernel) (by decide +kernel)
theorem wd190 : (Cond.instanceMethod ⟨"java/lang/RuntimeException", "<init>", "(Ljava/lang/String;)V"⟩ : Cond) ∈ wBIG := wbg (i := 190) (by decide +kernel) (by decide +kernel)
theorem wd192 : (Cond.methodLink "java/lang/RuntimeException" 7 ⟨"java/lang/Exception", "<init>", "(Ljava/lang/String;)V"⟩ : Cond) ∈ wBIG := wbg (i := 192) (by decide +kernel) (by decide +kernel)
theorem wd193 : (Cond.instanceMethod ⟨"java/lang/Exception", "<init>", "(Ljava/lang/String;)V"⟩ : Cond) ∈ wBIG := wbg (i := 193) (by decide +kernel) (by decide +kernel)
theorem wd195 : (Cond.methodLink "java/lang/Exception" 7 ⟨"java/lang/Throwable", "<init>", "(Ljava/lang/String;)V"⟩ : Cond) ∈ wBIG := wbg (i := 195) (by decide +kernel) (by decide +kernel)
theorem wd196 : (Cond.instanceMethod ⟨"java/lang/Throwable", "<init>", "(Ljava/lang/String;)V"⟩ : Cond) ∈ wBIG := wbg (i := 196) (by decide +kernel) (by decide +kernel)
theorem wd198 : (Cond.fieldLink "java/lang/Throwable" 198 "java/lang/Throwable" "backtrace" "Ljava/lang/Object;" : Cond) ∈ wBIG := wbg (i := 198) (by decide +kernel) (by decide +kernel)
theorem wd199 : (Cond.fieldLink "java/lang/Throwable" 31 "java/lang/Throwable" "detailMessage" "Ljava/lang/String;" : Cond) ∈ wBIG := wbg (i := 199) (by decide +kernel) (by decide +kernel)
theorem wd200 : (Cond.fieldLink "java/lang/Throwable" 7 "java/lang/Throwable" "cause" "Ljava/lang/Throwable;" : Cond) ∈ wBIG := wbg (i := 200) (by decide +kernel) (by decide +kernel)
theorem wd201 : (Cond.fieldLink "java/lang/Throwable" 17 "java/lang/Throwable" "stackTrace" "[Ljava/lang/StackTraceElement;" : Cond) ∈ wBIG := wbg (i := 201) (by decide +kernel) (by decide +kernel)
theorem wd202 : (Cond.fieldLink "java/lang/Throwable" 24 "java/lang/Throwable" "suppressedExceptions" "Ljava/util/List;" : Cond) ∈ wBIG := wbg (i := 202) (by decide +kernel) (by decide +kernel)
theorem wd211 : (Cond.arrayClass .byte : Cond) ∈ wBIG := wbg (i := 211) (by decide +kernel) (by decide +kernel)
theorem wd212 : (Cond.methodLink "ClosureRows" 116 ⟨"ClosureRows", "isIncident", "(I)Z"⟩ : Cond) ∈ wBIG := wbg (i := 212) (by decide +kernel) (by decide +kernel)
theorem wd213 : (Cond.static ⟨"ClosureRows", "isIncident", "(I)Z"⟩ : Cond) ∈ wBIG := wbg (i := 213) (by decide +kernel) (by decide +kernel)
theorem wd214 : (Cond.code ⟨"ClosureRows", "isIncident", "(I)Z"⟩ prog_1_method_26_code 1 (some .boolean) : Cond) ∈ wBIG := wbg (i := 214) (by decide +kernel) (by decide +kernel)
theorem wd216 : (Cond.methodLink "ClosureRows" 45 ⟨"ClosureRows", "needPiece", "(I)V"⟩ : Cond) ∈ wBIG := wbg (i := 216) (by decide +kernel) (by decide +kernel)
theorem wd217 : (Cond.static ⟨"ClosureRows", "needPiece", "(I)V"⟩ : Cond) ∈ wBIG := wbg (i := 217) (by decide +kernel) (by decide +kernel)
theorem wd218 : (Cond.code ⟨"ClosureRows", "needPiece", "(I)V"⟩ prog_1_method_20_code 1 none : Cond) ∈ wBIG := wbg (i := 218) (by decide +kernel) (by decide +kernel)
theorem wd220 : (Cond.classLink "ClosureRows" 49 "java/lang/IndexOutOfBoundsException" : Cond) ∈ wBIG := wbg (i := 220) (by decide +kernel) (by decide +kernel)
theorem wd221 : (Cond.instantiable "java/lang/IndexOutOfBoundsException" 6 : Cond) ∈ wBIG := wbg (i := 221) (by decide +kernel) (by decide +kernel)
theorem wd230 : (Cond.methodLink "ClosureRows" 53 ⟨"java/lang/IndexOutOfBoundsException", "<init>", "(Ljava/lang/String;)V"⟩ : Cond) ∈ wBIG := wbg (i := 230) (by decide +kernel) (by decide +kernel)
theorem wd231 : (Cond.instanceMethod ⟨"java/lang/IndexOutOfBoundsException", "<init>", "(Ljava/lang/String;)V"⟩ : Cond) ∈ wBIG := wbg (i := 231) (by decide +kernel) (by decide +kernel)
theorem wd233 : (Cond.methodLink "java/lang/IndexOutOfBoundsException" 7 ⟨"java/lang/RuntimeException", "<init>", "(Ljava/lang/String;)V"⟩ : Cond) ∈ wBIG := wbg (i := 233) (by decide +kernel) (by decide +kernel)
theorem wd236 : (Cond.methodLink "ClosureRows" 56 ⟨"ClosureRows", "needMinute", "(I)V"⟩ : Cond) ∈ wBIG := wbg (i := 236) (by decide +kernel) (by decide +kernel)
theorem wd237 : (Cond.static ⟨"ClosureRows", "needMinute", "(I)V"⟩ : Cond) ∈ wBIG := wbg (i := 237) (by decide +kernel) (by decide +kernel)
theorem wd238 : (Cond.code ⟨"ClosureRows", "needMinute", "(I)V"⟩ prog_1_method_23_code 1 none : Cond) ∈ wBIG := wbg (i := 238) (by decide +kernel) (by decide +kernel)
theorem wd239 : (Cond.constant "ClosureRows" 143 99999 : Cond) ∈ wBIG := wbg (i := 239) (by decide +kernel) (by decide +kernel)
theorem wd241 : (Cond.methodLink "ClosureRows" 59 ⟨"ClosureRows", "needEnd", "(III)V"⟩ : Cond) ∈ wBIG := wbg (i := 241) (by decide +kernel) (by decide +kernel)
theorem wd242 : (Cond.static ⟨"ClosureRows", "needEnd", "(III)V"⟩ : Cond) ∈ wBIG := wbg (i := 242) (by decide +kernel) (by decide +kernel)
theorem wd243 : (Cond.code ⟨"ClosureRows", "needEnd", "(III)V"⟩ prog_1_method_24_code 3 none : Cond) ∈ wBIG := wbg (i := 243) (by decide +kernel) (by decide +kernel)
theorem wd244 : (Cond.methodLink "ClosureRows" 75 ⟨"ClosureRows", "hasEnd", "(I)Z"⟩ : Cond) ∈ wBIG := wbg (i := 244) (by decide +kernel) (by decide +kernel)
theorem wd245 : (Cond.static ⟨"ClosureRows", "hasEnd", "(I)Z"⟩ : Cond) ∈ wBIG := wbg (i := 245) (by decide +kernel) (by decide +kernel)
theorem wd246 : (Cond.code ⟨"ClosureRows", "hasEnd", "(I)Z"⟩ prog_1_method_27_code 1 (some .boolean) : Cond) ∈ wBIG := wbg (i := 246) (by decide +kernel) (by decide +kernel)
theorem wd248 : (Cond.methodLink "ClosureRows" 63 ⟨"ClosureRows", "needX", "(II)V"⟩ : Cond) ∈ wBIG := wbg (i := 248) (by decide +kernel) (by decide +kernel)
theorem wd249 : (Cond.static ⟨"ClosureRows", "needX", "(II)V"⟩ : Cond) ∈ wBIG := wbg (i := 249) (by decide +kernel) (by decide +kernel)
theorem wd250 : (Cond.code ⟨"ClosureRows", "needX", "(II)V"⟩ prog_1_method_25_code 2 none : Cond) ∈ wBIG := wbg (i := 250) (by decide +kernel) (by decide +kernel)
theorem wd251 : (Cond.methodLink "ClosureRows" 223 ⟨"ClosureRows", "isTimetable", "(I)Z"⟩ : Cond) ∈ wBIG := wbg (i := 251) (by decide +kernel) (by decide +kernel)
theorem wd252 : (Cond.static ⟨"ClosureRows", "isTimetable", "(I)Z"⟩ : Cond) ∈ wBIG := wbg (i := 252) (by decide +kernel) (by decide +kernel)
theorem wd253 : (Cond.code ⟨"ClosureRows", "isTimetable", "(I)Z"⟩ prog_1_method_28_code 2 (some .boolean) : Cond) ∈ wBIG := wbg (i := 253) (by decide +kernel) (by decide +kernel)
theorem wd254 : (Cond.methodLink "ClosureRows" 230 ⟨"ClosureRows", "periodOf", "(I)I"⟩ : Cond) ∈ wBIG := wbg (i := 254) (by decide +kernel) (by decide +kernel)
theorem wd255 : (Cond.static ⟨"ClosureRows", "periodOf", "(I)I"⟩ : Cond) ∈ wBIG := wbg (i := 255) (by decide +kernel) (by decide +kernel)
theorem wd256 : (Cond.code ⟨"ClosureRows", "periodOf", "(I)I"⟩ prog_1_method_29_code 1 (some .int) : Cond) ∈ wBIG := wbg (i := 256) (by decide +kernel) (by decide +kernel)
theorem wd257 : (Cond.methodLink "ClosureRows" 233 ⟨"ClosureRows", "lengthOf", "(I)I"⟩ : Cond) ∈ wBIG := wbg (i := 257) (by decide +kernel) (by decide +kernel)
theorem wd258 : (Cond.static ⟨"ClosureRows", "lengthOf", "(I)I"⟩ : Cond) ∈ wBIG := wbg (i := 258) (by decide +kernel) (by decide +kernel)
theorem wd259 : (Cond.code ⟨"ClosureRows", "lengthOf", "(I)I"⟩ prog_1_method_30_code 1 (some .int) : Cond) ∈ wBIG := wbg (i := 259) (by decide +kernel) (by decide +kernel)
theorem wd262 : (Cond.methodLink "ClosureRows" 66 ⟨"ClosureRows$Closures", "isFull", "()Z"⟩ : Cond) ∈ wBIG := wbg (i := 262) (by decide +kernel) (by decide +kernel)
theorem wd263 : (Cond.instanceMethod ⟨"ClosureRows$Closures", "isFull", "()Z"⟩ : Cond) ∈ wBIG := wbg (i := 263) (by decide +kernel) (by decide +kernel)
theorem wd264 : (Cond.selects "ClosureRows$Closures" ⟨"ClosureRows$Closures", "isFull", "()Z"⟩ ⟨"ClosureRows$Closures", "isFull", "()Z"⟩ : Cond) ∈ wBIG := wbg (i := 264) (by decide +kernel) (by decide +kernel)
theorem wd265 : (Cond.code ⟨"ClosureRows$Closures", "isFull", "()Z"⟩ prog_2_method_2_code 1 (some .boolean) : Cond) ∈ wBIG := wbg (i := 265) (by decide +kernel) (by decide +kernel)
theorem wd266 : (Cond.classLink "ClosureRows" 70 "java/lang/UnsupportedOperationException" : Cond) ∈ wBIG := wbg (i := 266) (by decide +kernel) (by decide +kernel)
theorem wd267 : (Cond.instantiable "java/lang/UnsupportedOperationException" 6 : Cond) ∈ wBIG := wbg (i := 267) (by decide +kernel) (by decide +kernel)
theorem wd276 : (Cond.methodLink "ClosureRows" 74 ⟨"java/lang/UnsupportedOperationException", "<init>", "(Ljava/lang/String;)V"⟩ : Cond) ∈ wBIG := wbg (i := 276) (by decide +kernel) (by decide +kernel)
theorem wd277 : (Cond.instanceMethod ⟨"java/lang/UnsupportedOperationException", "<init>", "(Ljava/lang/String;)V"⟩ : Cond) ∈ wBIG := wbg (i := 277) (by decide +kernel) (by decide +kernel)
theorem wd279 : (Cond.methodLink "java/lang/UnsupportedOperationException" 7 ⟨"java/lang/RuntimeException", "<init>", "(Ljava/lang/String;)V"⟩ : Cond) ∈ wBIG := wbg (i := 279) (by decide +kernel) (by decide +kernel)
theorem wd282 : (Cond.constant "ClosureRows" 79 100000 : Cond) ∈ wBIG := wbg (i := 282) (by decide +kernel) (by decide +kernel)
theorem wd283 : (Cond.methodLink "ClosureRows" 80 ⟨"ClosureRows$Closures", "add", "(IIIIII)I"⟩ : Cond) ∈ wBIG := wbg (i := 283) (by decide +kernel) (by decide +kernel)
theorem wd284 : (Cond.instanceMethod ⟨"ClosureRows$Closures", "add", "(IIIIII)I"⟩ : Cond) ∈ wBIG := wbg (i := 284) (by decide +kernel) (by decide +kernel)
theorem wd285 : (Cond.selects "ClosureRows$Closures" ⟨"ClosureRows$Closures", "add", "(IIIIII)I"⟩ ⟨"ClosureRows$Closures", "add", "(IIIIII)I"⟩ : Cond) ∈ wBIG := wbg (i := 285) (by decide +kernel) (by decide +kernel)
theorem wd286 : (Cond.code ⟨"ClosureRows$Closures", "add", "(IIIIII)I"⟩ prog_2_method_4_code 8 (some .int) : Cond) ∈ wBIG := wbg (i := 286) (by decide +kernel) (by decide +kernel)
theorem wd287 : (Cond.methodLink "ClosureRows" 84 ⟨"ClosureRows", "tellChanges", "()V"⟩ : Cond) ∈ wBIG := wbg (i := 287) (by decide +kernel) (by decide +kernel)
theorem wd289 : (Cond.instanceMethod ⟨"ClosureRows", "tellChanges", "()V"⟩ : Cond) ∈ wBIG := wbg (i := 289) (by decide +kernel) (by decide +kernel)
theorem wd290 : (Cond.code ⟨"ClosureRows", "tellChanges", "()V"⟩ prog_1_method_16_code 2 none : Cond) ∈ wBIG := wbg (i := 290) (by decide +kernel) (by decide +kernel)
theorem wd291 : (Cond.methodLink "ClosureRows" 190 ⟨"ClosureRows$Closures", "markClosed", "([ZI)V"⟩ : Cond) ∈ wBIG := wbg (i := 291) (by decide +kernel) (by decide +kernel)
theorem wd292 : (Cond.instanceMethod ⟨"ClosureRows$Closures", "markClosed", "([ZI)V"⟩ : Cond) ∈ wBIG := wbg (i := 292) (by decide +kernel) (by decide +kernel)
theorem wd293 : (Cond.selects "ClosureRows$Closures" ⟨"ClosureRows$Closures", "markClosed", "([ZI)V"⟩ ⟨"ClosureRows$Closures", "markClosed", "([ZI)V"⟩ : Cond) ∈ wBIG := wbg (i := 293) (by decide +kernel) (by decide +kernel)
theorem wd294 : (Cond.code ⟨"ClosureRows$Closures", "markClosed", "([ZI)V"⟩ prog_2_method_12_code 4 none : Cond) ∈ wBIG := wbg (i := 294) (by decide +kernel) (by decide +kernel)
theorem wd295 : (Cond.methodLink "ClosureRows$Closures" 48 ⟨"ClosureRows$Closures", "holds", "(II)Z"⟩ : Cond) ∈ wBIG := wbg (i := 295) (by decide +kernel) (by decide +kernel)
theorem wd297 : (Cond.instanceMethod ⟨"ClosureRows$Closures", "holds", "(II)Z"⟩ : Cond) ∈ wBIG := wbg (i := 297) (by decide +kernel) (by decide +kernel)
theorem wd298 : (Cond.code ⟨"ClosureRows$Closures", "holds", "(II)Z"⟩ prog_2_method_23_code 3 (some .boolean) : Cond) ∈ wBIG := wbg (i := 298) (by decide +kernel) (by decide +kernel)
theorem wd299 : (Cond.methodLink "ClosureRows$Closures" 79 ⟨"ClosureRows$Closures", "minuteOfPeriod", "(II)I"⟩ : Cond) ∈ wBIG := wbg (i := 299) (by decide +kernel) (by decide +kernel)
theorem wd301 : (Cond.instanceMethod ⟨"ClosureRows$Closures", "minuteOfPeriod", "(II)I"⟩ : Cond) ∈ wBIG := wbg (i := 301) (by decide +kernel) (by decide +kernel)
theorem wd302 : (Cond.code ⟨"ClosureRows$Closures", "minuteOfPeriod", "(II)I"⟩ prog_2_method_24_code 3 (some .int) : Cond) ∈ wBIG := wbg (i := 302) (by decide +kernel) (by decide +kernel)
theorem wd305 : (Cond.methodLink "ClosureRows$Closures" 52 ⟨"ClosureRows$Closures", "markSides", "([ZI)V"⟩ : Cond) ∈ wBIG := wbg (i := 305) (by decide +kernel) (by decide +kernel)
theorem wd307 : (Cond.instanceMethod ⟨"ClosureRows$Closures", "markSides", "([ZI)V"⟩ : Cond) ∈ wBIG := wbg (i := 307) (by decide +kernel) (by decide +kernel)
theorem wd308 : (Cond.code ⟨"ClosureRows$Closures", "markSides", "([ZI)V"⟩ prog_2_method_13_code 3 none : Cond) ∈ wBIG := wbg (i := 308) (by decide +kernel) (by decide +kernel)
theorem wd310 : (Cond.static ⟨"ClosureRows", "placeOf", "(II)I"⟩ : Cond) ∈ wBIG := wbg (i := 310) (by decide +kernel) (by decide +kernel)
theorem wd311 : (Cond.code ⟨"ClosureRows", "placeOf", "(II)I"⟩ prog_1_method_31_code 2 (some .int) : Cond) ∈ wBIG := wbg (i := 311) (by decide +kernel) (by decide +kernel)
theorem wd312 : (Cond.methodLink "ClosureRows" 194 ⟨"ClosureRows", "tellUnits", "(I)V"⟩ : Cond) ∈ wBIG := wbg (i := 312) (by decide +kernel) (by decide +kernel)
theorem wd314 : (Cond.instanceMethod ⟨"ClosureRows", "tellUnits", "(I)V"⟩ : Cond) ∈ wBIG := wbg (i := 314) (by decide +kernel) (by decide +kernel)
theorem wd315 : (Cond.code ⟨"ClosureRows", "tellUnits", "(I)V"⟩ prog_1_method_17_code 3 none : Cond) ∈ wBIG := wbg (i := 315) (by decide +kernel) (by decide +kernel)
theorem wd316 : (Cond.methodLink "ClosureRows" 197 ⟨"ClosureRows$Routes", "leadsOver", "(II)Z"⟩ : Cond) ∈ wBIG := wbg (i := 316) (by decide +kernel) (by decide +kernel)
theorem wd317 : (Cond.instanceMethod ⟨"ClosureRows$Routes", "leadsOver", "(II)Z"⟩ : Cond) ∈ wBIG := wbg (i := 317) (by decide +kernel) (by decide +kernel)
theorem wd318 : (Cond.selects "ClosureRows$Routes" ⟨"ClosureRows$Routes", "leadsOver", "(II)Z"⟩ ⟨"ClosureRows$Routes", "leadsOver", "(II)Z"⟩ : Cond) ∈ wBIG := wbg (i := 318) (by decide +kernel) (by decide +kernel)
theorem wd319 : (Cond.code ⟨"ClosureRows$Routes", "leadsOver", "(II)Z"⟩ prog_4_method_7_code 4 (some .boolean) : Cond) ∈ wBIG := wbg (i := 319) (by decide +kernel) (by decide +kernel)
theorem wd320 : (Cond.methodLink "ClosureRows$Routes" 18 ⟨"ClosureRows$Routes", "stepOf", "(II)I"⟩ : Cond) ∈ wBIG := wbg (i := 320) (by decide +kernel) (by decide +kernel)
theorem wd321 : (Cond.instanceMethod ⟨"ClosureRows$Routes", "stepOf", "(II)I"⟩ : Cond) ∈ wBIG := wbg (i := 321) (by decide +kernel) (by decide +kernel)
theorem wd322 : (Cond.selects "ClosureRows$Routes" ⟨"ClosureRows$Routes", "stepOf", "(II)I"⟩ ⟨"ClosureRows$Routes", "stepOf", "(II)I"⟩ : Cond) ∈ wBIG := wbg (i := 322) (by decide +kernel) (by decide +kernel)
theorem wd323 : (Cond.code ⟨"ClosureRows$Routes", "stepOf", "(II)I"⟩ prog_4_method_6_code 3 (some .int) : Cond) ∈ wBIG := wbg (i := 323) (by decide +kernel) (by decide +kernel)
theorem wd324 : (Cond.methodLink "ClosureRows" 200 ⟨"ClosureRows$Notices", "add", "(IIZI)V"⟩ : Cond) ∈ wBIG := wbg (i := 324) (by decide +kernel) (by decide +kernel)
theorem wd325 : (Cond.instanceMethod ⟨"ClosureRows$Notices", "add", "(IIZI)V"⟩ : Cond) ∈ wBIG := wbg (i := 325) (by decide +kernel) (by decide +kernel)
theorem wd326 : (Cond.selects "ClosureRows$Notices" ⟨"ClosureRows$Notices", "add", "(IIZI)V"⟩ ⟨"ClosureRows$Notices", "add", "(IIZI)V"⟩ : Cond) ∈ wBIG := wbg (i := 326) (by decide +kernel) (by decide +kernel)
theorem wd327 : (Cond.code ⟨"ClosureRows$Notices", "add", "(IIZI)V"⟩ prog_3_method_5_code 6 none : Cond) ∈ wBIG := wbg (i := 327) (by decide +kernel) (by decide +kernel)
theorem wd328 : (Cond.methodLink "ClosureRows$Notices" 19 ⟨"ClosureRows$Notices", "firstOf", "(I)I"⟩ : Cond) ∈ wBIG := wbg (i := 328) (by decide +kernel) (by decide +kernel)
theorem wd329 : (Cond.static ⟨"ClosureRows$Notices", "firstOf", "(I)I"⟩ : Cond) ∈ wBIG := wbg (i := 329) (by decide +kernel) (by decide +kernel)
theorem wd330 : (Cond.code ⟨"ClosureRows$Notices", "firstOf", "(I)I"⟩ prog_3_method_6_code 1 (some .int) : Cond) ∈ wBIG := wbg (i := 330) (by decide +kernel) (by decide +kernel)
theorem wd331 : (Cond.methodLink "ClosureRows$Notices" 29 ⟨"java/lang/Math", "floorMod", "(II)I"⟩ : Cond) ∈ wBIG := wbg (i := 331) (by decide +kernel) (by decide +kernel)
theorem wd332 : (Cond.static ⟨"java/lang/Math", "floorMod", "(II)I"⟩ : Cond) ∈ wBIG := wbg (i := 332) (by decide +kernel) (by decide +kernel)
theorem wd333 : (Cond.code ⟨"java/lang/Math", "floorMod", "(II)I"⟩ prog_11_method_50_code 3 (some .int) : Cond) ∈ wBIG := wbg (i := 333) (by decide +kernel) (by decide +kernel)
theorem wd335 : (Cond.static ⟨"ClosureRows", "pieceOf", "(I)I"⟩ : Cond) ∈ wBIG := wbg (i := 335) (by decide +kernel) (by decide +kernel)
theorem wd336 : (Cond.code ⟨"ClosureRows", "pieceOf", "(I)I"⟩ prog_1_method_32_code 1 (some .int) : Cond) ∈ wBIG := wbg (i := 336) (by decide +kernel) (by decide +kernel)
theorem wd338 : (Cond.static ⟨"ClosureRows", "sideOf", "(I)I"⟩ : Cond) ∈ wBIG := wbg (i := 338) (by decide +kernel) (by decide +kernel)
theorem wd339 : (Cond.code ⟨"ClosureRows", "sideOf", "(I)I"⟩ prog_1_method_33_code 1 (some .int) : Cond) ∈ wBIG := wbg (i := 339) (by decide +kernel) (by decide +kernel)
theorem wd340 : (Cond.methodLink "ClosureRowsLaw" 78 ⟨"ClosureRowsLaw", "answer", "(LClosureRows;IZ)I"⟩ : Cond) ∈ wBIG := wbg (i := 340) (by decide +kernel) (by decide +kernel)
theorem wd341 : (Cond.static ⟨"ClosureRowsLaw", "answer", "(LClosureRows;IZ)I"⟩ : Cond) ∈ wBIG := wbg (i := 341) (by decide +kernel) (by decide +kernel)
theorem wd342 : (Cond.codeWith ⟨"ClosureRowsLaw", "answer", "(LClosureRows;IZ)I"⟩ method_4_code 4 (some .int) [(0, 6, 9, 13), (0, 6, 12, 23)] : Cond) ∈ wBIG := wbg (i := 342) (by decide +kernel) (by decide +kernel)
theorem wd343 : (Cond.classLink "ClosureRowsLaw" 23 "java/lang/IllegalStateException" : Cond) ∈ wBIG := wbg (i := 343) (by decide +kernel) (by decide +kernel)
theorem wd344 : (Cond.methodLink "ClosureRowsLaw" 19 ⟨"ClosureRows", "answer", "(IZ)V"⟩ : Cond) ∈ wBIG := wbg (i := 344) (by decide +kernel) (by decide +kernel)
theorem wd345 : (Cond.instanceMethod ⟨"ClosureRows", "answer", "(IZ)V"⟩ : Cond) ∈ wBIG := wbg (i := 345) (by decide +kernel) (by decide +kernel)
theorem wd346 : (Cond.selects "ClosureRows" ⟨"ClosureRows", "answer", "(IZ)V"⟩ ⟨"ClosureRows", "answer", "(IZ)V"⟩ : Cond) ∈ wBIG := wbg (i := 346) (by decide +kernel) (by decide +kernel)
theorem wd347 : (Cond.code ⟨"ClosureRows", "answer", "(IZ)V"⟩ prog_1_method_3_code 3 none : Cond) ∈ wBIG := wbg (i := 347) (by decide +kernel) (by decide +kernel)
theorem wd348 : (Cond.methodLink "ClosureRows" 87 ⟨"ClosureRows", "needClosure", "(I)V"⟩ : Cond) ∈ wBIG := wbg (i := 348) (by decide +kernel) (by decide +kernel)
theorem wd350 : (Cond.instanceMethod ⟨"ClosureRows", "needClosure", "(I)V"⟩ : Cond) ∈ wBIG := wbg (i := 350) (by decide +kernel) (by decide +kernel)
theorem wd351 : (Cond.code ⟨"ClosureRows", "needClosure", "(I)V"⟩ prog_1_method_18_code 2 none : Cond) ∈ wBIG := wbg (i := 351) (by decide +kernel) (by decide +kernel)
theorem wd352 : (Cond.methodLink "ClosureRows" 203 ⟨"ClosureRows$Closures", "has", "(I)Z"⟩ : Cond) ∈ wBIG := wbg (i := 352) (by decide +kernel) (by decide +kernel)
theorem wd353 : (Cond.instanceMethod ⟨"ClosureRows$Closures", "has", "(I)Z"⟩ : Cond) ∈ wBIG := wbg (i := 353) (by decide +kernel) (by decide +kernel)
theorem wd354 : (Cond.selects "ClosureRows$Closures" ⟨"ClosureRows$Closures", "has", "(I)Z"⟩ ⟨"ClosureRows$Closures", "has", "(I)Z"⟩ : Cond) ∈ wBIG := wbg (i := 354) (by decide +kernel) (by decide +kernel)
theorem wd355 : (Cond.code ⟨"ClosureRows$Closures", "has", "(I)Z"⟩ prog_2_method_3_code 2 (some .boolean) : Cond) ∈ wBIG := wbg (i := 355) (by decide +kernel) (by decide +kernel)
theorem wd357 : (Cond.methodLink "ClosureRows" 90 ⟨"ClosureRows$Closures", "awaitsAnswer", "(I)Z"⟩ : Cond) ∈ wBIG := wbg (i := 357) (by decide +kernel) (by decide +kernel)
theorem wd358 : (Cond.instanceMethod ⟨"ClosureRows$Closures", "awaitsAnswer", "(I)Z"⟩ : Cond) ∈ wBIG := wbg (i := 358) (by decide +kernel) (by decide +kernel)
theorem wd359 : (Cond.selects "ClosureRows$Closures" ⟨"ClosureRows$Closures", "awaitsAnswer", "(I)Z"⟩ ⟨"ClosureRows$Closures", "awaitsAnswer", "(I)Z"⟩ : Cond) ∈ wBIG := wbg (i := 359) (by decide +kernel) (by decide +kernel)
theorem wd360 : (Cond.code ⟨"ClosureRows$Closures", "awaitsAnswer", "(I)Z"⟩ prog_2_method_5_code 2 (some .boolean) : Cond) ∈ wBIG := wbg (i := 360) (by decide +kernel) (by decide +kernel)
theorem wd361 : (Cond.classLink "ClosureRows" 93 "java/lang/IllegalStateException" : Cond) ∈ wBIG := wbg (i := 361) (by decide +kernel) (by decide +kernel)
theorem wd362 : (Cond.instantiable "java/lang/IllegalStateException" 6 : Cond) ∈ wBIG := wbg (i := 362) (by decide +kernel) (by decide +kernel)
theorem wd371 : (Cond.methodLink "ClosureRows" 97 ⟨"java/lang/IllegalStateException", "<init>", "(Ljava/lang/String;)V"⟩ : Cond) ∈ wBIG := wbg (i := 371) (by decide +kernel) (by decide +kernel)
theorem wd372 : (Cond.instanceMethod ⟨"java/lang/IllegalStateException", "<init>", "(Ljava/lang/String;)V"⟩ : Cond) ∈ wBIG := wbg (i := 372) (by decide +kernel) (by decide +kernel)
theorem wd374 : (Cond.methodLink "java/lang/IllegalStateException" 7 ⟨"java/lang/RuntimeException", "<init>", "(Ljava/lang/String;)V"⟩ : Cond) ∈ wBIG := wbg (i := 374) (by decide +kernel) (by decide +kernel)
theorem wd377 : (Cond.methodLink "ClosureRows" 98 ⟨"ClosureRows$Closures", "setAnswer", "(IZ)V"⟩ : Cond) ∈ wBIG := wbg (i := 377) (by decide +kernel) (by decide +kernel)
theorem wd378 : (Cond.instanceMethod ⟨"ClosureRows$Closures", "setAnswer", "(IZ)V"⟩ : Cond) ∈ wBIG := wbg (i := 378) (by decide +kernel) (by decide +kernel)
theorem wd379 : (Cond.selects "ClosureRows$Closures" ⟨"ClosureRows$Closures", "setAnswer", "(IZ)V"⟩ ⟨"ClosureRows$Closures", "setAnswer", "(IZ)V"⟩ : Cond) ∈ wBIG := wbg (i := 379) (by decide +kernel) (by decide +kernel)
theorem wd380 : (Cond.code ⟨"ClosureRows$Closures", "setAnswer", "(IZ)V"⟩ prog_2_method_6_code 3 none : Cond) ∈ wBIG := wbg (i := 380) (by decide +kernel) (by decide +kernel)
theorem wd381 : (Cond.methodLink "ClosureRowsLaw" 82 ⟨"ClosureRowsLaw", "lift", "(LClosureRows;II[J)I"⟩ : Cond) ∈ wBIG := wbg (i := 381) (by decide +kernel) (by decide +kernel)
theorem wd382 : (Cond.static ⟨"ClosureRowsLaw", "lift", "(LClosureRows;II[J)I"⟩ : Cond) ∈ wBIG := wbg (i := 382) (by decide +kernel) (by decide +kernel)
theorem wd383 : (Cond.codeWith ⟨"ClosureRowsLaw", "lift", "(LClosureRows;II[J)I"⟩ method_5_code 5 (some .int) [(0, 17, 20, 13), (0, 17, 24, 15), (0, 17, 28, 23)] : Cond) ∈ wBIG := wbg (i := 383) (by decide +kernel) (by decide +kernel)
theorem wd384 : (Cond.methodLink "ClosureRowsLaw" 25 ⟨"ClosureRows", "lift", "(II)Z"⟩ : Cond) ∈ wBIG := wbg (i := 384) (by decide +kernel) (by decide +kernel)
theorem wd385 : (Cond.instanceMethod ⟨"ClosureRows", "lift", "(II)Z"⟩ : Cond) ∈ wBIG := wbg (i := 385) (by decide +kernel) (by decide +kernel)
theorem wd386 : (Cond.selects "ClosureRows" ⟨"ClosureRows", "lift", "(II)Z"⟩ ⟨"ClosureRows", "lift", "(II)Z"⟩ : Cond) ∈ wBIG := wbg (i := 386) (by decide +kernel) (by decide +kernel)
theorem wd387 : (Cond.code ⟨"ClosureRows", "lift", "(II)Z"⟩ prog_1_method_4_code 3 (some .boolean) : Cond) ∈ wBIG := wbg (i := 387) (by decide +kernel) (by decide +kernel)
theorem wd389 : (Cond.methodLink "ClosureRows" 104 ⟨"ClosureRows$Closures", "canBeLifted", "(II)Z"⟩ : Cond) ∈ wBIG := wbg (i := 389) (by decide +kernel) (by decide +kernel)
theorem wd390 : (Cond.instanceMethod ⟨"ClosureRows$Closures", "canBeLifted", "(II)Z"⟩ : Cond) ∈ wBIG := wbg (i := 390) (by decide +kernel) (by decide +kernel)
theorem wd391 : (Cond.selects "ClosureRows$Closures" ⟨"ClosureRows$Closures", "canBeLifted", "(II)Z"⟩ ⟨"ClosureRows$Closures", "canBeLifted", "(II)Z"⟩ : Cond) ∈ wBIG := wbg (i := 391) (by decide +kernel) (by decide +kernel)
theorem wd392 : (Cond.code ⟨"ClosureRows$Closures", "canBeLifted", "(II)Z"⟩ prog_2_method_8_code 3 (some .boolean) : Cond) ∈ wBIG := wbg (i := 392) (by decide +kernel) (by decide +kernel)
theorem wd394 : (Cond.methodLink "ClosureRows" 110 ⟨"ClosureRows$Closures", "giveWord", "(II)Z"⟩ : Cond) ∈ wBIG := wbg (i := 394) (by decide +kernel) (by decide +kernel)
theorem wd395 : (Cond.instanceMethod ⟨"ClosureRows$Closures", "giveWord", "(II)Z"⟩ : Cond) ∈ wBIG := wbg (i := 395) (by decide +kernel) (by decide +kernel)
theorem wd396 : (Cond.selects "ClosureRows$Closures" ⟨"ClosureRows$Closures", "giveWord", "(II)Z"⟩ ⟨"ClosureRows$Closures", "giveWord", "(II)Z"⟩ : Cond) ∈ wBIG := wbg (i := 396) (by decide +kernel) (by decide +kernel)
theorem wd397 : (Cond.code ⟨"ClosureRows$Closures", "giveWord", "(II)Z"⟩ prog_2_method_9_code 3 (some .boolean) : Cond) ∈ wBIG := wbg (i := 397) (by decide +kernel) (by decide +kernel)
theorem wd398 : (Cond.methodLink "ClosureRows" 113 ⟨"ClosureRows$Closures", "endAt", "(II)V"⟩ : Cond) ∈ wBIG := wbg (i := 398) (by decide +kernel) (by decide +kernel)
theorem wd399 : (Cond.instanceMethod ⟨"ClosureRows$Closures", "endAt", "(II)V"⟩ : Cond) ∈ wBIG := wbg (i := 399) (by decide +kernel) (by decide +kernel)
theorem wd400 : (Cond.selects "ClosureRows$Closures" ⟨"ClosureRows$Closures", "endAt", "(II)V"⟩ ⟨"ClosureRows$Closures", "endAt", "(II)V"⟩ : Cond) ∈ wBIG := wbg (i := 400) (by decide +kernel) (by decide +kernel)
theorem wd401 : (Cond.code ⟨"ClosureRows$Closures", "endAt", "(II)V"⟩ prog_2_method_10_code 3 none : Cond) ∈ wBIG := wbg (i := 401) (by decide +kernel) (by decide +kernel)
theorem wd402 : (Cond.methodLink "ClosureRowsLaw" 86 ⟨"ClosureRowsLaw", "incident", "(LClosureRows;IZ)I"⟩ : Cond) ∈ wBIG := wbg (i := 402) (by decide +kernel) (by decide +kernel)
theorem wd403 : (Cond.static ⟨"ClosureRowsLaw", "incident", "(LClosureRows;IZ)I"⟩ : Cond) ∈ wBIG := wbg (i := 403) (by decide +kernel) (by decide +kernel)
theorem wd404 : (Cond.codeWith ⟨"ClosureRowsLaw", "incident", "(LClosureRows;IZ)I"⟩ method_6_code 4 (some .int) [(0, 6, 9, 13)] : Cond) ∈ wBIG := wbg (i := 404) (by decide +kernel) (by decide +kernel)
theorem wd405 : (Cond.methodLink "ClosureRowsLaw" 29 ⟨"ClosureRows", "incident", "(IZ)V"⟩ : Cond) ∈ wBIG := wbg (i := 405) (by decide +kernel) (by decide +kernel)
theorem wd406 : (Cond.instanceMethod ⟨"ClosureRows", "incident", "(IZ)V"⟩ : Cond) ∈ wBIG := wbg (i := 406) (by decide +kernel) (by decide +kernel)
theorem wd407 : (Cond.selects "ClosureRows" ⟨"ClosureRows", "incident", "(IZ)V"⟩ ⟨"ClosureRows", "incident", "(IZ)V"⟩ : Cond) ∈ wBIG := wbg (i := 407) (by decide +kernel) (by decide +kernel)
theorem wd408 : (Cond.code ⟨"ClosureRows", "incident", "(IZ)V"⟩ prog_1_method_5_code 3 none : Cond) ∈ wBIG := wbg (i := 408) (by decide +kernel) (by decide +kernel)
theorem wd409 : (Cond.methodLink "ClosureRows" 124 ⟨"ClosureRows$Closures", "setIncident", "(IZ)V"⟩ : Cond) ∈ wBIG := wbg (i := 409) (by decide +kernel) (by decide +kernel)
theorem wd410 : (Cond.instanceMethod ⟨"ClosureRows$Closures", "setIncident", "(IZ)V"⟩ : Cond) ∈ wBIG := wbg (i := 410) (by decide +kernel) (by decide +kernel)
theorem wd411 : (Cond.selects "ClosureRows$Closures" ⟨"ClosureRows$Closures", "setIncident", "(IZ)V"⟩ ⟨"ClosureRows$Closures", "setIncident", "(IZ)V"⟩ : Cond) ∈ wBIG := wbg (i := 411) (by decide +kernel) (by decide +kernel)
theorem wd412 : (Cond.code ⟨"ClosureRows$Closures", "setIncident", "(IZ)V"⟩ prog_2_method_7_code 3 none : Cond) ∈ wBIG := wbg (i := 412) (by decide +kernel) (by decide +kernel)
theorem wd413 : (Cond.methodLink "ClosureRowsLaw" 89 ⟨"ClosureRowsLaw", "step", "(LClosureRows;III[J)I"⟩ : Cond) ∈ wBIG := wbg (i := 413) (by decide +kernel) (by decide +kernel)
theorem wd414 : (Cond.static ⟨"ClosureRowsLaw", "step", "(LClosureRows;III[J)I"⟩ : Cond) ∈ wBIG := wbg (i := 414) (by decide +kernel) (by decide +kernel)
theorem wd415 : (Cond.codeWith ⟨"ClosureRowsLaw", "step", "(LClosureRows;III[J)I"⟩ method_7_code 6 (some .int) [(0, 12, 15, 13), (0, 12, 19, 15), (0, 12, 23, 17)] : Cond) ∈ wBIG := wbg (i := 415) (by decide +kernel) (by decide +kernel)
theorem wd416 : (Cond.methodLink "ClosureRowsLaw" 32 ⟨"ClosureRows", "step", "(III)I"⟩ : Cond) ∈ wBIG := wbg (i := 416) (by decide +kernel) (by decide +kernel)
theorem wd417 : (Cond.instanceMethod ⟨"ClosureRows", "step", "(III)I"⟩ : Cond) ∈ wBIG := wbg (i := 417) (by decide +kernel) (by decide +kernel)
theorem wd418 : (Cond.selects "ClosureRows" ⟨"ClosureRows", "step", "(III)I"⟩ ⟨"ClosureRows", "step", "(III)I"⟩ : Cond) ∈ wBIG := wbg (i := 418) (by decide +kernel) (by decide +kernel)
theorem wd419 : (Cond.code ⟨"ClosureRows", "step", "(III)I"⟩ prog_1_method_6_code 5 (some .int) : Cond) ∈ wBIG := wbg (i := 419) (by decide +kernel) (by decide +kernel)
theorem wd420 : (Cond.methodLink "ClosureRows" 127 ⟨"ClosureRows", "needUnit", "(I)V"⟩ : Cond) ∈ wBIG := wbg (i := 420) (by decide +kernel) (by decide +kernel)
theorem wd421 : (Cond.static ⟨"ClosureRows", "needUnit", "(I)V"⟩ : Cond) ∈ wBIG := wbg (i := 421) (by decide +kernel) (by decide +kernel)
theorem wd422 : (Cond.code ⟨"ClosureRows", "needUnit", "(I)V"⟩ prog_1_method_22_code 1 none : Cond) ∈ wBIG := wbg (i := 422) (by decide +kernel) (by decide +kernel)
theorem wd424 : (Cond.methodLink "ClosureRows" 130 ⟨"ClosureRows$Routes", "empty", "(I)V"⟩ : Cond) ∈ wBIG := wbg (i := 424) (by decide +kernel) (by decide +kernel)
theorem wd425 : (Cond.instanceMethod ⟨"ClosureRows$Routes", "empty", "(I)V"⟩ : Cond) ∈ wBIG := wbg (i := 425) (by decide +kernel) (by decide +kernel)
theorem wd426 : (Cond.selects "ClosureRows$Routes" ⟨"ClosureRows$Routes", "empty", "(I)V"⟩ ⟨"ClosureRows$Routes", "empty", "(I)V"⟩ : Cond) ∈ wBIG := wbg (i := 426) (by decide +kernel) (by decide +kernel)
theorem wd427 : (Cond.code ⟨"ClosureRows$Routes", "empty", "(I)V"⟩ prog_4_method_2_code 2 none : Cond) ∈ wBIG := wbg (i := 427) (by decide +kernel) (by decide +kernel)
theorem wd428 : (Cond.methodLink "ClosureRows" 133 ⟨"ClosureRows", "needPlace", "(II)I"⟩ : Cond) ∈ wBIG := wbg (i := 428) (by decide +kernel) (by decide +kernel)
theorem wd429 : (Cond.static ⟨"ClosureRows", "needPlace", "(II)I"⟩ : Cond) ∈ wBIG := wbg (i := 429) (by decide +kernel) (by decide +kernel)
theorem wd430 : (Cond.code ⟨"ClosureRows", "needPlace", "(II)I"⟩ prog_1_method_21_code 2 (some .int) : Cond) ∈ wBIG := wbg (i := 430) (by decide +kernel) (by decide +kernel)
theorem wd432 : (Cond.methodLink "ClosureRows" 214 ⟨"ClosureRows", "placeOf", "(II)I"⟩ : Cond) ∈ wBIG := wbg (i := 432) (by decide +kernel) (by decide +kernel)
theorem wd433 : (Cond.methodLink "ClosureRows" 137 ⟨"ClosureRows$Routes", "isFull", "(I)Z"⟩ : Cond) ∈ wBIG := wbg (i := 433) (by decide +kernel) (by decide +kernel)
theorem wd434 : (Cond.instanceMethod ⟨"ClosureRows$Routes", "isFull", "(I)Z"⟩ : Cond) ∈ wBIG := wbg (i := 434) (by decide +kernel) (by decide +kernel)
theorem wd435 : (Cond.selects "ClosureRows$Routes" ⟨"ClosureRows$Routes", "isFull", "(I)Z"⟩ ⟨"ClosureRows$Routes", "isFull", "(I)Z"⟩ : Cond) ∈ wBIG := wbg (i := 435) (by decide +kernel) (by decide +kernel)
theorem wd436 : (Cond.code ⟨"ClosureRows$Routes", "isFull", "(I)Z"⟩ prog_4_method_3_code 2 (some .boolean) : Cond) ∈ wBIG := wbg (i := 436) (by decide +kernel) (by decide +kernel)
theorem wd438 : (Cond.methodLink "ClosureRows" 141 ⟨"ClosureRows$Routes", "add", "(II)I"⟩ : Cond) ∈ wBIG := wbg (i := 438) (by decide +kernel) (by decide +kernel)
theorem wd439 : (Cond.instanceMethod ⟨"ClosureRows$Routes", "add", "(II)I"⟩ : Cond) ∈ wBIG := wbg (i := 439) (by decide +kernel) (by decide +kernel)
theorem wd440 : (Cond.selects "ClosureRows$Routes" ⟨"ClosureRows$Routes", "add", "(II)I"⟩ ⟨"ClosureRows$Routes", "add", "(II)I"⟩ : Cond) ∈ wBIG := wbg (i := 440) (by decide +kernel) (by decide +kernel)
theorem wd441 : (Cond.code ⟨"ClosureRows$Routes", "add", "(II)I"⟩ prog_4_method_4_code 3 (some .int) : Cond) ∈ wBIG := wbg (i := 441) (by decide +kernel) (by decide +kernel)
theorem wd442 : (Cond.methodLink "ClosureRowsLaw" 93 ⟨"ClosureRowsLaw", "tick", "(LClosureRows;I[J)I"⟩ : Cond) ∈ wBIG := wbg (i := 442) (by decide +kernel) (by decide +kernel)
theorem wd443 : (Cond.static ⟨"ClosureRowsLaw", "tick", "(LClosureRows;I[J)I"⟩ : Cond) ∈ wBIG := wbg (i := 443) (by decide +kernel) (by decide +kernel)
theorem wd444 : (Cond.codeWith ⟨"ClosureRowsLaw", "tick", "(LClosureRows;I[J)I"⟩ method_8_code 4 (some .int) [(0, 9, 12, 15)] : Cond) ∈ wBIG := wbg (i := 444) (by decide +kernel) (by decide +kernel)
theorem wd445 : (Cond.methodLink "ClosureRowsLaw" 36 ⟨"ClosureRows", "tick", "(I)I"⟩ : Cond) ∈ wBIG := wbg (i := 445) (by decide +kernel) (by decide +kernel)
theorem wd446 : (Cond.instanceMethod ⟨"ClosureRows", "tick", "(I)I"⟩ : Cond) ∈ wBIG := wbg (i := 446) (by decide +kernel) (by decide +kernel)
theorem wd447 : (Cond.selects "ClosureRows" ⟨"ClosureRows", "tick", "(I)I"⟩ ⟨"ClosureRows", "tick", "(I)I"⟩ : Cond) ∈ wBIG := wbg (i := 447) (by decide +kernel) (by decide +kernel)
theorem wd448 : (Cond.code ⟨"ClosureRows", "tick", "(I)I"⟩ prog_1_method_7_code 5 (some .int) : Cond) ∈ wBIG := wbg (i := 448) (by decide +kernel) (by decide +kernel)
theorem wd450 : (Cond.methodLink "ClosureRows" 146 ⟨"ClosureRows$Notices", "total", "()I"⟩ : Cond) ∈ wBIG := wbg (i := 450) (by decide +kernel) (by decide +kernel)
theorem wd451 : (Cond.instanceMethod ⟨"ClosureRows$Notices", "total", "()I"⟩ : Cond) ∈ wBIG := wbg (i := 451) (by decide +kernel) (by decide +kernel)
theorem wd452 : (Cond.selects "ClosureRows$Notices" ⟨"ClosureRows$Notices", "total", "()I"⟩ ⟨"ClosureRows$Notices", "total", "()I"⟩ : Cond) ∈ wBIG := wbg (i := 452) (by decide +kernel) (by decide +kernel)
theorem wd453 : (Cond.code ⟨"ClosureRows$Notices", "total", "()I"⟩ prog_3_method_2_code 1 (some .int) : Cond) ∈ wBIG := wbg (i := 453) (by decide +kernel) (by decide +kernel)
theorem wd454 : (Cond.methodLink "ClosureRows" 150 ⟨"ClosureRows$Closures", "nextChange", "(I)I"⟩ : Cond) ∈ wBIG := wbg (i := 454) (by decide +kernel) (by decide +kernel)
theorem wd455 : (Cond.instanceMethod ⟨"ClosureRows$Closures", "nextChange", "(I)I"⟩ : Cond) ∈ wBIG := wbg (i := 455) (by decide +kernel) (by decide +kernel)
theorem wd456 : (Cond.selects "ClosureRows$Closures" ⟨"ClosureRows$Closures", "nextChange", "(I)I"⟩ ⟨"ClosureRows$Closures", "nextChange", "(I)I"⟩ : Cond) ∈ wBIG := wbg (i := 456) (by decide +kernel) (by decide +kernel)
theorem wd457 : (Cond.code ⟨"ClosureRows$Closures", "nextChange", "(I)I"⟩ prog_2_method_18_code 4 (some .int) : Cond) ∈ wBIG := wbg (i := 457) (by decide +kernel) (by decide +kernel)
theorem wd458 : (Cond.constant "ClosureRows$Closures" 72 100000 : Cond) ∈ wBIG := wbg (i := 458) (by decide +kernel) (by decide +kernel)
theorem wd459 : (Cond.methodLink "ClosureRows$Closures" 73 ⟨"ClosureRows$Closures", "changeOf", "(II)I"⟩ : Cond) ∈ wBIG := wbg (i := 459) (by decide +kernel) (by decide +kernel)
theorem wd461 : (Cond.instanceMethod ⟨"ClosureRows$Closures", "changeOf", "(II)I"⟩ : Cond) ∈ wBIG := wbg (i := 461) (by decide +kernel) (by decide +kernel)
theorem wd462 : (Cond.code ⟨"ClosureRows$Closures", "changeOf", "(II)I"⟩ prog_2_method_20_code 6 (some .int) : Cond) ∈ wBIG := wbg (i := 462) (by decide +kernel) (by decide +kernel)
theorem wd463 : (Cond.methodLink "ClosureRows$Closures" 60 ⟨"java/lang/Math", "min", "(II)I"⟩ : Cond) ∈ wBIG := wbg (i := 463) (by decide +kernel) (by decide +kernel)
theorem wd464 : (Cond.static ⟨"java/lang/Math", "min", "(II)I"⟩ : Cond) ∈ wBIG := wbg (i := 464) (by decide +kernel) (by decide +kernel)
theorem wd465 : (Cond.code ⟨"java/lang/Math", "min", "(II)I"⟩ prog_11_method_69_code 2 (some .int) : Cond) ∈ wBIG := wbg (i := 465) (by decide +kernel) (by decide +kernel)
theorem wd466 : (Cond.methodLink "ClosureRowsLaw" 101 ⟨"ClosureRowsLaw", "closed", "(LClosureRows;III[J)I"⟩ : Cond) ∈ wBIG := wbg (i := 466) (by decide +kernel) (by decide +kernel)
theorem wd467 : (Cond.static ⟨"ClosureRowsLaw", "closed", "(LClosureRows;III[J)I"⟩ : Cond) ∈ wBIG := wbg (i := 467) (by decide +kernel) (by decide +kernel)
theorem wd468 : (Cond.codeWith ⟨"ClosureRowsLaw", "closed", "(LClosureRows;III[J)I"⟩ method_9_code 6 (some .int) [(0, 19, 22, 13), (0, 19, 26, 15)] : Cond) ∈ wBIG := wbg (i := 468) (by decide +kernel) (by decide +kernel)
theorem wd469 : (Cond.methodLink "ClosureRowsLaw" 40 ⟨"ClosureRows", "closed", "(III)Z"⟩ : Cond) ∈ wBIG := wbg (i := 469) (by decide +kernel) (by decide +kernel)
theorem wd470 : (Cond.instanceMethod ⟨"ClosureRows", "closed", "(III)Z"⟩ : Cond) ∈ wBIG := wbg (i := 470) (by decide +kernel) (by decide +kernel)
theorem wd471 : (Cond.selects "ClosureRows" ⟨"ClosureRows", "closed", "(III)Z"⟩ ⟨"ClosureRows", "closed", "(III)Z"⟩ : Cond) ∈ wBIG := wbg (i := 471) (by decide +kernel) (by decide +kernel)
theorem wd472 : (Cond.code ⟨"ClosureRows", "closed", "(III)Z"⟩ prog_1_method_9_code 5 (some .boolean) : Cond) ∈ wBIG := wbg (i := 472) (by decide +kernel) (by decide +kernel)
theorem wd473 : (Cond.methodLink "ClosureRows" 154 ⟨"ClosureRows$Closures", "isClosedAt", "(II)Z"⟩ : Cond) ∈ wBIG := wbg (i := 473) (by decide +kernel) (by decide +kernel)
theorem wd474 : (Cond.instanceMethod ⟨"ClosureRows$Closures", "isClosedAt", "(II)Z"⟩ : Cond) ∈ wBIG := wbg (i := 474) (by decide +kernel) (by decide +kernel)
theorem wd475 : (Cond.selects "ClosureRows$Closures" ⟨"ClosureRows$Closures", "isClosedAt", "(II)Z"⟩ ⟨"ClosureRows$Closures", "isClosedAt", "(II)Z"⟩ : Cond) ∈ wBIG := wbg (i := 475) (by decide +kernel) (by decide +kernel)
theorem wd476 : (Cond.code ⟨"ClosureRows$Closures", "isClosedAt", "(II)Z"⟩ prog_2_method_11_code 4 (some .boolean) : Cond) ∈ wBIG := wbg (i := 476) (by decide +kernel) (by decide +kernel)
theorem wd477 : (Cond.methodLink "ClosureRows$Closures" 44 ⟨"ClosureRows$Closures", "holdsOn", "(III)Z"⟩ : Cond) ∈ wBIG := wbg (i := 477) (by decide +kernel) (by decide +kernel)
theorem wd479 : (Cond.instanceMethod ⟨"ClosureRows$Closures", "holdsOn", "(III)Z"⟩ : Cond) ∈ wBIG := wbg (i := 479) (by decide +kernel) (by decide +kernel)
theorem wd480 : (Cond.code ⟨"ClosureRows$Closures", "holdsOn", "(III)Z"⟩ prog_2_method_21_code 4 (some .boolean) : Cond) ∈ wBIG := wbg (i := 480) (by decide +kernel) (by decide +kernel)
theorem wd481 : (Cond.methodLink "ClosureRows$Closures" 76 ⟨"ClosureRows$Closures", "covers", "(II)Z"⟩ : Cond) ∈ wBIG := wbg (i := 481) (by decide +kernel) (by decide +kernel)
theorem wd483 : (Cond.instanceMethod ⟨"ClosureRows$Closures", "covers", "(II)Z"⟩ : Cond) ∈ wBIG := wbg (i := 483) (by decide +kernel) (by decide +kernel)
theorem wd484 : (Cond.code ⟨"ClosureRows$Closures", "covers", "(II)Z"⟩ prog_2_method_22_code 3 (some .boolean) : Cond) ∈ wBIG := wbg (i := 484) (by decide +kernel) (by decide +kernel)
theorem wd487 : (Cond.methodLink "ClosureRowsLaw" 104 ⟨"ClosureRowsLaw", "minutes", "(LClosureRows;IIII[J)I"⟩ : Cond) ∈ wBIG := wbg (i := 487) (by decide +kernel) (by decide +kernel)
theorem wd488 : (Cond.static ⟨"ClosureRowsLaw", "minutes", "(LClosureRows;IIII[J)I"⟩ : Cond) ∈ wBIG := wbg (i := 488) (by decide +kernel) (by decide +kernel)
theorem wd489 : (Cond.codeWith ⟨"ClosureRowsLaw", "minutes", "(LClosureRows;IIII[J)I"⟩ method_10_code 7 (some .int) [(0, 14, 17, 13), (0, 14, 21, 15)] : Cond) ∈ wBIG := wbg (i := 489) (by decide +kernel) (by decide +kernel)
theorem wd490 : (Cond.methodLink "ClosureRowsLaw" 44 ⟨"ClosureRows", "minutes", "(IIII)I"⟩ : Cond) ∈ wBIG := wbg (i := 490) (by decide +kernel) (by decide +kernel)
theorem wd491 : (Cond.instanceMethod ⟨"ClosureRows", "minutes", "(IIII)I"⟩ : Cond) ∈ wBIG := wbg (i := 491) (by decide +kernel) (by decide +kernel)
theorem wd492 : (Cond.selects "ClosureRows" ⟨"ClosureRows", "minutes", "(IIII)I"⟩ ⟨"ClosureRows", "minutes", "(IIII)I"⟩ : Cond) ∈ wBIG := wbg (i := 492) (by decide +kernel) (by decide +kernel)
theorem wd493 : (Cond.code ⟨"ClosureRows", "minutes", "(IIII)I"⟩ prog_1_method_10_code 10 (some .int) : Cond) ∈ wBIG := wbg (i := 493) (by decide +kernel) (by decide +kernel)
theorem wd495 : (Cond.methodLink "ClosureRows" 159 ⟨"ClosureRows$Closures", "nextChangeOn", "(II)I"⟩ : Cond) ∈ wBIG := wbg (i := 495) (by decide +kernel) (by decide +kernel)
theorem wd496 : (Cond.instanceMethod ⟨"ClosureRows$Closures", "nextChangeOn", "(II)I"⟩ : Cond) ∈ wBIG := wbg (i := 496) (by decide +kernel) (by decide +kernel)
theorem wd497 : (Cond.selects "ClosureRows$Closures" ⟨"ClosureRows$Closures", "nextChangeOn", "(II)I"⟩ ⟨"ClosureRows$Closures", "nextChangeOn", "(II)I"⟩ : Cond) ∈ wBIG := wbg (i := 497) (by decide +kernel) (by decide +kernel)
theorem wd498 : (Cond.code ⟨"ClosureRows$Closures", "nextChangeOn", "(II)I"⟩ prog_2_method_19_code 5 (some .int) : Cond) ∈ wBIG := wbg (i := 498) (by decide +kernel) (by decide +kernel)
theorem wd499 : (Cond.methodLink "ClosureRowsLaw" 108 ⟨"ClosureRowsLaw", "opens", "(LClosureRows;III[J)I"⟩ : Cond) ∈ wBIG := wbg (i := 499) (by decide +kernel) (by decide +kernel)
theorem wd500 : (Cond.static ⟨"ClosureRowsLaw", "opens", "(LClosureRows;III[J)I"⟩ : Cond) ∈ wBIG := wbg (i := 500) (by decide +kernel) (by decide +kernel)
theorem wd501 : (Cond.codeWith ⟨"ClosureRowsLaw", "opens", "(LClosureRows;III[J)I"⟩ method_11_code 6 (some .int) [(0, 12, 15, 13), (0, 12, 19, 15)] : Cond) ∈ wBIG := wbg (i := 501) (by decide +kernel) (by decide +kernel)
theorem wd502 : (Cond.methodLink "ClosureRowsLaw" 48 ⟨"ClosureRows", "opens", "(III)I"⟩ : Cond) ∈ wBIG := wbg (i := 502) (by decide +kernel) (by decide +kernel)
theorem wd503 : (Cond.instanceMethod ⟨"ClosureRows", "opens", "(III)I"⟩ : Cond) ∈ wBIG := wbg (i := 503) (by decide +kernel) (by decide +kernel)
theorem wd504 : (Cond.selects "ClosureRows" ⟨"ClosureRows", "opens", "(III)I"⟩ ⟨"ClosureRows", "opens", "(III)I"⟩ : Cond) ∈ wBIG := wbg (i := 504) (by decide +kernel) (by decide +kernel)
theorem wd505 : (Cond.code ⟨"ClosureRows", "opens", "(III)I"⟩ prog_1_method_11_code 8 (some .int) : Cond) ∈ wBIG := wbg (i := 505) (by decide +kernel) (by decide +kernel)
theorem wd506 : (Cond.methodLink "ClosureRows" 162 ⟨"java/lang/Math", "min", "(II)I"⟩ : Cond) ∈ wBIG := wbg (i := 506) (by decide +kernel) (by decide +kernel)
theorem wd507 : (Cond.methodLink "ClosureRowsLaw" 111 ⟨"ClosureRowsLaw", "reason", "(LClosureRows;IIII[J)I"⟩ : Cond) ∈ wBIG := wbg (i := 507) (by decide +kernel) (by decide +kernel)
theorem wd508 : (Cond.static ⟨"ClosureRowsLaw", "reason", "(LClosureRows;IIII[J)I"⟩ : Cond) ∈ wBIG := wbg (i := 508) (by decide +kernel) (by decide +kernel)
theorem wd509 : (Cond.codeWith ⟨"ClosureRowsLaw", "reason", "(LClosureRows;IIII[J)I"⟩ method_12_code 7 (some .int) [(0, 14, 17, 13), (0, 14, 21, 15)] : Cond) ∈ wBIG := wbg (i := 509) (by decide +kernel) (by decide +kernel)
theorem wd510 : (Cond.methodLink "ClosureRowsLaw" 51 ⟨"ClosureRows", "reason", "(IIII)I"⟩ : Cond) ∈ wBIG := wbg (i := 510) (by decide +kernel) (by decide +kernel)
theorem wd511 : (Cond.instanceMethod ⟨"ClosureRows", "reason", "(IIII)I"⟩ : Cond) ∈ wBIG := wbg (i := 511) (by decide +kernel) (by decide +kernel)
theorem wd512 : (Cond.selects "ClosureRows" ⟨"ClosureRows", "reason", "(IIII)I"⟩ ⟨"ClosureRows", "reason", "(IIII)I"⟩ : Cond) ∈ wBIG := wbg (i := 512) (by decide +kernel) (by decide +kernel)
theorem wd513 : (Cond.code ⟨"ClosureRows", "reason", "(IIII)I"⟩ prog_1_method_12_code 6 (some .int) : Cond) ∈ wBIG := wbg (i := 513) (by decide +kernel) (by decide +kernel)
theorem wd515 : (Cond.methodLink "ClosureRows" 169 ⟨"ClosureRows$Closures", "holdingAt", "(III)I"⟩ : Cond) ∈ wBIG := wbg (i := 515) (by decide +kernel) (by decide +kernel)
theorem wd516 : (Cond.instanceMethod ⟨"ClosureRows$Closures", "holdingAt", "(III)I"⟩ : Cond) ∈ wBIG := wbg (i := 516) (by decide +kernel) (by decide +kernel)
theorem wd517 : (Cond.selects "ClosureRows$Closures" ⟨"ClosureRows$Closures", "holdingAt", "(III)I"⟩ ⟨"ClosureRows$Closures", "holdingAt", "(III)I"⟩ : Cond) ∈ wBIG := wbg (i := 517) (by decide +kernel) (by decide +kernel)
theorem wd518 : (Cond.code ⟨"ClosureRows$Closures", "holdingAt", "(III)I"⟩ prog_2_method_15_code 5 (some .int) : Cond) ∈ wBIG := wbg (i := 518) (by decide +kernel) (by decide +kernel)
theorem wd519 : (Cond.methodLink "ClosureRows$Closures" 65 ⟨"ClosureRows$Closures", "rankOf", "(III)I"⟩ : Cond) ∈ wBIG := wbg (i := 519) (by decide +kernel) (by decide +kernel)
theorem wd521 : (Cond.instanceMethod ⟨"ClosureRows$Closures", "rankOf", "(III)I"⟩ : Cond) ∈ wBIG := wbg (i := 521) (by decide +kernel) (by decide +kernel)
theorem wd522 : (Cond.code ⟨"ClosureRows$Closures", "rankOf", "(III)I"⟩ prog_2_method_16_code 6 (some .int) : Cond) ∈ wBIG := wbg (i := 522) (by decide +kernel) (by decide +kernel)
theorem wd523 : (Cond.methodLink "ClosureRows$Closures" 69 ⟨"ClosureRows$Closures", "endsAheadOf", "(II)Z"⟩ : Cond) ∈ wBIG := wbg (i := 523) (by decide +kernel) (by decide +kernel)
theorem wd525 : (Cond.instanceMethod ⟨"ClosureRows$Closures", "endsAheadOf", "(II)Z"⟩ : Cond) ∈ wBIG := wbg (i := 525) (by decide +kernel) (by decide +kernel)
theorem wd526 : (Cond.code ⟨"ClosureRows$Closures", "endsAheadOf", "(II)Z"⟩ prog_2_method_17_code 3 (some .boolean) : Cond) ∈ wBIG := wbg (i := 526) (by decide +kernel) (by decide +kernel)
theorem wd527 : (Cond.methodLink "ClosureRowsLaw" 114 ⟨"ClosureRowsLaw", "speed", "(LClosureRows;III[J)I"⟩ : Cond) ∈ wBIG := wbg (i := 527) (by decide +kernel) (by decide +kernel)
theorem wd528 : (Cond.static ⟨"ClosureRowsLaw", "speed", "(LClosureRows;III[J)I"⟩ : Cond) ∈ wBIG := wbg (i := 528) (by decide +kernel) (by decide +kernel)
theorem wd529 : (Cond.codeWith ⟨"ClosureRowsLaw", "speed", "(LClosureRows;III[J)I"⟩ method_13_code 6 (some .int) [(0, 12, 15, 13), (0, 12, 19, 15)] : Cond) ∈ wBIG := wbg (i := 529) (by decide +kernel) (by decide +kernel)
theorem wd530 : (Cond.methodLink "ClosureRowsLaw" 54 ⟨"ClosureRows", "speed", "(III)I"⟩ : Cond) ∈ wBIG := wbg (i := 530) (by decide +kernel) (by decide +kernel)
theorem wd531 : (Cond.instanceMethod ⟨"ClosureRows", "speed", "(III)I"⟩ : Cond) ∈ wBIG := wbg (i := 531) (by decide +kernel) (by decide +kernel)
theorem wd532 : (Cond.selects "ClosureRows" ⟨"ClosureRows", "speed", "(III)I"⟩ ⟨"ClosureRows", "speed", "(III)I"⟩ : Cond) ∈ wBIG := wbg (i := 532) (by decide +kernel) (by decide +kernel)
theorem wd533 : (Cond.code ⟨"ClosureRows", "speed", "(III)I"⟩ prog_1_method_13_code 5 (some .int) : Cond) ∈ wBIG := wbg (i := 533) (by decide +kernel) (by decide +kernel)
theorem wd534 : (Cond.methodLink "ClosureRows" 173 ⟨"ClosureRows$Closures", "percentAt", "(II)I"⟩ : Cond) ∈ wBIG := wbg (i := 534) (by decide +kernel) (by decide +kernel)
theorem wd535 : (Cond.instanceMethod ⟨"ClosureRows$Closures", "percentAt", "(II)I"⟩ : Cond) ∈ wBIG := wbg (i := 535) (by decide +kernel) (by decide +kernel)
theorem wd536 : (Cond.selects "ClosureRows$Closures" ⟨"ClosureRows$Closures", "percentAt", "(II)I"⟩ ⟨"ClosureRows$Closures", "percentAt", "(II)I"⟩ : Cond) ∈ wBIG := wbg (i := 536) (by decide +kernel) (by decide +kernel)
theorem wd537 : (Cond.code ⟨"ClosureRows$Closures", "percentAt", "(II)I"⟩ prog_2_method_14_code 5 (some .int) : Cond) ∈ wBIG := wbg (i := 537) (by decide +kernel) (by decide +kernel)
theorem wd538 : (Cond.methodLink "ClosureRowsLaw" 117 ⟨"ClosureRowsLaw", "notice", "(LClosureRows;II[J)I"⟩ : Cond) ∈ wBIG := wbg (i := 538) (by decide +kernel) (by decide +kernel)
theorem wd539 : (Cond.static ⟨"ClosureRowsLaw", "notice", "(LClosureRows;II[J)I"⟩ : Cond) ∈ wBIG := wbg (i := 539) (by decide +kernel) (by decide +kernel)
theorem wd540 : (Cond.codeWith ⟨"ClosureRowsLaw", "notice", "(LClosureRows;II[J)I"⟩ method_14_code 5 (some .int) [(0, 10, 13, 13)] : Cond) ∈ wBIG := wbg (i := 540) (by decide +kernel) (by decide +kernel)
theorem wd541 : (Cond.methodLink "ClosureRowsLaw" 57 ⟨"ClosureRows", "notice", "(II)I"⟩ : Cond) ∈ wBIG := wbg (i := 541) (by decide +kernel) (by decide +kernel)
theorem wd542 : (Cond.instanceMethod ⟨"ClosureRows", "notice", "(II)I"⟩ : Cond) ∈ wBIG := wbg (i := 542) (by decide +kernel) (by decide +kernel)
theorem wd543 : (Cond.selects "ClosureRows" ⟨"ClosureRows", "notice", "(II)I"⟩ ⟨"ClosureRows", "notice", "(II)I"⟩ : Cond) ∈ wBIG := wbg (i := 543) (by decide +kernel) (by decide +kernel)
theorem wd544 : (Cond.code ⟨"ClosureRows", "notice", "(II)I"⟩ prog_1_method_14_code 3 (some .int) : Cond) ∈ wBIG := wbg (i := 544) (by decide +kernel) (by decide +kernel)
theorem wd545 : (Cond.methodLink "ClosureRows" 176 ⟨"ClosureRows$Notices", "isKept", "(I)Z"⟩ : Cond) ∈ wBIG := wbg (i := 545) (by decide +kernel) (by decide +kernel)
theorem wd546 : (Cond.instanceMethod ⟨"ClosureRows$Notices", "isKept", "(I)Z"⟩ : Cond) ∈ wBIG := wbg (i := 546) (by decide +kernel) (by decide +kernel)
theorem wd547 : (Cond.selects "ClosureRows$Notices" ⟨"ClosureRows$Notices", "isKept", "(I)Z"⟩ ⟨"ClosureRows$Notices", "isKept", "(I)Z"⟩ : Cond) ∈ wBIG := wbg (i := 547) (by decide +kernel) (by decide +kernel)
theorem wd548 : (Cond.code ⟨"ClosureRows$Notices", "isKept", "(I)Z"⟩ prog_3_method_3_code 2 (some .boolean) : Cond) ∈ wBIG := wbg (i := 548) (by decide +kernel) (by decide +kernel)
theorem wd550 : (Cond.methodLink "ClosureRows" 181 ⟨"ClosureRows$Notices", "get", "(II)I"⟩ : Cond) ∈ wBIG := wbg (i := 550) (by decide +kernel) (by decide +kernel)
theorem wd551 : (Cond.instanceMethod ⟨"ClosureRows$Notices", "get", "(II)I"⟩ : Cond) ∈ wBIG := wbg (i := 551) (by decide +kernel) (by decide +kernel)
theorem wd552 : (Cond.selects "ClosureRows$Notices" ⟨"ClosureRows$Notices", "get", "(II)I"⟩ ⟨"ClosureRows$Notices", "get", "(II)I"⟩ : Cond) ∈ wBIG := wbg (i := 552) (by decide +kernel) (by decide +kernel)
theorem wd553 : (Cond.code ⟨"ClosureRows$Notices", "get", "(II)I"⟩ prog_3_method_4_code 3 (some .int) : Cond) ∈ wBIG := wbg (i := 553) (by decide +kernel) (by decide +kernel)
theorem wd554 : (Cond.methodLink "ClosureRowsLaw" 120 ⟨"ClosureRowsLaw", "blocked", "(LClosureRows;I[J)I"⟩ : Cond) ∈ wBIG := wbg (i := 554) (by decide +kernel) (by decide +kernel)
theorem wd555 : (Cond.static ⟨"ClosureRowsLaw", "blocked", "(LClosureRows;I[J)I"⟩ : Cond) ∈ wBIG := wbg (i := 555) (by decide +kernel) (by decide +kernel)
theorem wd556 : (Cond.codeWith ⟨"ClosureRowsLaw", "blocked", "(LClosureRows;I[J)I"⟩ method_15_code 4 (some .int) [(0, 9, 12, 13)] : Cond) ∈ wBIG := wbg (i := 556) (by decide +kernel) (by decide +kernel)
theorem wd557 : (Cond.methodLink "ClosureRowsLaw" 61 ⟨"ClosureRows", "blocked", "(I)I"⟩ : Cond) ∈ wBIG := wbg (i := 557) (by decide +kernel) (by decide +kernel)
theorem wd558 : (Cond.instanceMethod ⟨"ClosureRows", "blocked", "(I)I"⟩ : Cond) ∈ wBIG := wbg (i := 558) (by decide +kernel) (by decide +kernel)
theorem wd559 : (Cond.selects "ClosureRows" ⟨"ClosureRows", "blocked", "(I)I"⟩ ⟨"ClosureRows", "blocked", "(I)I"⟩ : Cond) ∈ wBIG := wbg (i := 559) (by decide +kernel) (by decide +kernel)
theorem wd560 : (Cond.code ⟨"ClosureRows", "blocked", "(I)I"⟩ prog_1_method_15_code 4 (some .int) : Cond) ∈ wBIG := wbg (i := 560) (by decide +kernel) (by decide +kernel)
theorem wd561 : (Cond.methodLink "ClosureRows" 184 ⟨"ClosureRows$Routes", "length", "(I)I"⟩ : Cond) ∈ wBIG := wbg (i := 561) (by decide +kernel) (by decide +kernel)
theorem wd562 : (Cond.instanceMethod ⟨"ClosureRows$Routes", "length", "(I)I"⟩ : Cond) ∈ wBIG := wbg (i := 562) (by decide +kernel) (by decide +kernel)
theorem wd563 : (Cond.selects "ClosureRows$Routes" ⟨"ClosureRows$Routes", "length", "(I)I"⟩ ⟨"ClosureRows$Routes", "length", "(I)I"⟩ : Cond) ∈ wBIG := wbg (i := 563) (by decide +kernel) (by decide +kernel)
theorem wd564 : (Cond.code ⟨"ClosureRows$Routes", "length", "(I)I"⟩ prog_4_method_5_code 2 (some .int) : Cond) ∈ wBIG := wbg (i := 564) (by decide +kernel) (by decide +kernel)
theorem wd565 : (Cond.methodLink "ClosureRows" 187 ⟨"ClosureRows$Routes", "stepOf", "(II)I"⟩ : Cond) ∈ wBIG := wbg (i := 565) (by decide +kernel) (by decide +kernel)
theorem wd566 : (Cond.classLink "ClosureRowsLaw" 65 "ClosureRowsModel" : Cond) ∈ wBIG := wbg (i := 566) (by decide +kernel) (by decide +kernel)
theorem wd567 : (Cond.instantiable "ClosureRowsModel" 18 : Cond) ∈ wBIG := wbg (i := 567) (by decide +kernel) (by decide +kernel)
theorem wd568 : (Cond.methodLink "ClosureRowsLaw" 67 ⟨"ClosureRowsModel", "<init>", "()V"⟩ : Cond) ∈ wBIG := wbg (i := 568) (by decide +kernel) (by decide +kernel)
theorem wd569 : (Cond.instanceMethod ⟨"ClosureRowsModel", "<init>", "()V"⟩ : Cond) ∈ wBIG := wbg (i := 569) (by decide +kernel) (by decide +kernel)
theorem wd570 : (Cond.code ⟨"ClosureRowsModel", "<init>", "()V"⟩ prog_6_method_1_code 1 none : Cond) ∈ wBIG := wbg (i := 570) (by decide +kernel) (by decide +kernel)
theorem wd571 : (Cond.methodLink "ClosureRowsModel" 1 ⟨"java/lang/Object", "<init>", "()V"⟩ : Cond) ∈ wBIG := wbg (i := 571) (by decide +kernel) (by decide +kernel)
theorem wd572 : (Cond.fieldLink "ClosureRowsModel" 53 "ClosureRowsModel" "thrown" "I" : Cond) ∈ wBIG := wbg (i := 572) (by decide +kernel) (by decide +kernel)
theorem wd573 : (Cond.fieldLink "ClosureRowsModel" 72 "ClosureRowsModel" "clock" "I" : Cond) ∈ wBIG := wbg (i := 573) (by decide +kernel) (by decide +kernel)
theorem wd574 : (Cond.fieldLink "ClosureRowsModel" 62 "ClosureRowsModel" "many" "I" : Cond) ∈ wBIG := wbg (i := 574) (by decide +kernel) (by decide +kernel)
theorem wd575 : (Cond.fieldLink "ClosureRowsModel" 7 "ClosureRowsModel" "kind" "[I" : Cond) ∈ wBIG := wbg (i := 575) (by decide +kernel) (by decide +kernel)
theorem wd576 : (Cond.fieldLink "ClosureRowsModel" 13 "ClosureRowsModel" "piece" "[I" : Cond) ∈ wBIG := wbg (i := 576) (by decide +kernel) (by decide +kernel)
theorem wd577 : (Cond.fieldLink "ClosureRowsModel" 16 "ClosureRowsModel" "sides" "[I" : Cond) ∈ wBIG := wbg (i := 577) (by decide +kernel) (by decide +kernel)
theorem wd578 : (Cond.fieldLink "ClosureRowsModel" 19 "ClosureRowsModel" "from" "[I" : Cond) ∈ wBIG := wbg (i := 578) (by decide +kernel) (by decide +kernel)
theorem wd579 : (Cond.fieldLink "ClosureRowsModel" 22 "ClosureRowsModel" "to" "[I" : Cond) ∈ wBIG := wbg (i := 579) (by decide +kernel) (by decide +kernel)
theorem wd580 : (Cond.fieldLink "ClosureRowsModel" 25 "ClosureRowsModel" "number" "[I" : Cond) ∈ wBIG := wbg (i := 580) (by decide +kernel) (by decide +kernel)
theorem wd581 : (Cond.fieldLink "ClosureRowsModel" 28 "ClosureRowsModel" "answered" "[I" : Cond) ∈ wBIG := wbg (i := 581) (by decide +kernel) (by decide +kernel)
theorem wd582 : (Cond.fieldLink "ClosureRowsModel" 31 "ClosureRowsModel" "lifted" "[I" : Cond) ∈ wBIG := wbg (i := 582) (by decide +kernel) (by decide +kernel)
theorem wd583 : (Cond.fieldLink "ClosureRowsModel" 34 "ClosureRowsModel" "word" "[I" : Cond) ∈ wBIG := wbg (i := 583) (by decide +kernel) (by decide +kernel)
theorem wd584 : (Cond.fieldLink "ClosureRowsModel" 37 "ClosureRowsModel" "open" "[Z" : Cond) ∈ wBIG := wbg (i := 584) (by decide +kernel) (by decide +kernel)
theorem wd585 : (Cond.fieldLink "ClosureRowsModel" 41 "ClosureRowsModel" "steps" "[I" : Cond) ∈ wBIG := wbg (i := 585) (by decide +kernel) (by decide +kernel)
theorem wd586 : (Cond.fieldLink "ClosureRowsModel" 44 "ClosureRowsModel" "step" "[I" : Cond) ∈ wBIG := wbg (i := 586) (by decide +kernel) (by decide +kernel)
theorem wd587 : (Cond.fieldLink "ClosureRowsModel" 47 "ClosureRowsModel" "was" "[Z" : Cond) ∈ wBIG := wbg (i := 587) (by decide +kernel) (by decide +kernel)
theorem wd588 : (Cond.fieldLink "ClosureRowsModel" 81 "ClosureRowsModel" "notices" "I" : Cond) ∈ wBIG := wbg (i := 588) (by decide +kernel) (by decide +kernel)
theorem wd589 : (Cond.fieldLink "ClosureRowsModel" 50 "ClosureRowsModel" "told" "[I" : Cond) ∈ wBIG := wbg (i := 589) (by decide +kernel) (by decide +kernel)
theorem wd627 : (Cond.methodLink "ClosureRowsLaw" 74 ⟨"ClosureRowsModel", "thrown", "()I"⟩ : Cond) ∈ wBIG := wbg (i := 627) (by decide +kernel) (by decide +kernel)
theorem wd628 : (Cond.instanceMethod ⟨"ClosureRowsModel", "thrown", "()I"⟩ : Cond) ∈ wBIG := wbg (i := 628) (by decide +kernel) (by decide +kernel)
theorem wd629 : (Cond.selects "ClosureRowsModel" ⟨"ClosureRowsModel", "thrown", "()I"⟩ ⟨"ClosureRowsModel", "thrown", "()I"⟩ : Cond) ∈ wBIG := wbg (i := 629) (by decide +kernel) (by decide +kernel)
theorem wd630 : (Cond.code ⟨"ClosureRowsModel", "thrown", "()I"⟩ prog_6_method_2_code 1 (some .int) : Cond) ∈ wBIG := wbg (i := 630) (by decide +kernel) (by decide +kernel)
theorem wd631 : (Cond.methodLink "ClosureRowsLaw" 73 ⟨"ClosureRowsModel", "close", "(IIIIII)I"⟩ : Cond) ∈ wBIG := wbg (i := 631) (by decide +kernel) (by decide +kernel)
theorem wd632 : (Cond.instanceMethod ⟨"ClosureRowsModel", "close", "(IIIIII)I"⟩ : Cond) ∈ wBIG := wbg (i := 632) (by decide +kernel) (by decide +kernel)
theorem wd633 : (Cond.selects "ClosureRowsModel" ⟨"ClosureRowsModel", "close", "(IIIIII)I"⟩ ⟨"ClosureRowsModel", "close", "(IIIIII)I"⟩ : Cond) ∈ wBIG := wbg (i := 633) (by decide +kernel) (by decide +kernel)
theorem wd634 : (Cond.code ⟨"ClosureRowsModel", "close", "(IIIIII)I"⟩ prog_6_method_15_code 10 (some .int) : Cond) ∈ wBIG := wbg (i := 634) (by decide +kernel) (by decide +kernel)
theorem wd635 : (Cond.methodLink "ClosureRowsModel" 57 ⟨"ClosureRowsModel", "in", "(III)Z"⟩ : Cond) ∈ wBIG := wbg (i := 635) (by decide +kernel) (by decide +kernel)
theorem wd636 : (Cond.static ⟨"ClosureRowsModel", "in", "(III)Z"⟩ : Cond) ∈ wBIG := wbg (i := 636) (by decide +kernel) (by decide +kernel)
theorem wd637 : (Cond.code ⟨"ClosureRowsModel", "in", "(III)Z"⟩ prog_6_method_4_code 3 (some .boolean) : Cond) ∈ wBIG := wbg (i := 637) (by decide +kernel) (by decide +kernel)
theorem wd638 : (Cond.methodLink "ClosureRowsModel" 84 ⟨"ClosureRowsModel", "isPiece", "(I)Z"⟩ : Cond) ∈ wBIG := wbg (i := 638) (by decide +kernel) (by decide +kernel)
theorem wd639 : (Cond.static ⟨"ClosureRowsModel", "isPiece", "(I)Z"⟩ : Cond) ∈ wBIG := wbg (i := 639) (by decide +kernel) (by decide +kernel)
theorem wd640 : (Cond.code ⟨"ClosureRowsModel", "isPiece", "(I)Z"⟩ prog_6_method_5_code 1 (some .boolean) : Cond) ∈ wBIG := wbg (i := 640) (by decide +kernel) (by decide +kernel)
theorem wd641 : (Cond.methodLink "ClosureRowsModel" 88 ⟨"ClosureRowsModel", "isMinute", "(I)Z"⟩ : Cond) ∈ wBIG := wbg (i := 641) (by decide +kernel) (by decide +kernel)
theorem wd642 : (Cond.static ⟨"ClosureRowsModel", "isMinute", "(I)Z"⟩ : Cond) ∈ wBIG := wbg (i := 642) (by decide +kernel) (by decide +kernel)
theorem wd643 : (Cond.code ⟨"ClosureRowsModel", "isMinute", "(I)Z"⟩ prog_6_method_7_code 1 (some .boolean) : Cond) ∈ wBIG := wbg (i := 643) (by decide +kernel) (by decide +kernel)
theorem wd644 : (Cond.constant "ClosureRowsModel" 61 99999 : Cond) ∈ wBIG := wbg (i := 644) (by decide +kernel) (by decide +kernel)
theorem wd645 : (Cond.methodLink "ClosureRowsModel" 91 ⟨"ClosureRowsModel", "isNumber", "(II)Z"⟩ : Cond) ∈ wBIG := wbg (i := 645) (by decide +kernel) (by decide +kernel)
theorem wd646 : (Cond.static ⟨"ClosureRowsModel", "isNumber", "(II)Z"⟩ : Cond) ∈ wBIG := wbg (i := 646) (by decide +kernel) (by decide +kernel)
theorem wd647 : (Cond.code ⟨"ClosureRowsModel", "isNumber", "(II)Z"⟩ prog_6_method_14_code 2 (some .boolean) : Cond) ∈ wBIG := wbg (i := 647) (by decide +kernel) (by decide +kernel)
theorem wd648 : (Cond.methodLink "ClosureRowsModel" 94 ⟨"ClosureRowsModel", "throwing", "(ZZZ)Z"⟩ : Cond) ∈ wBIG := wbg (i := 648) (by decide +kernel) (by decide +kernel)
theorem wd650 : (Cond.instanceMethod ⟨"ClosureRowsModel", "throwing", "(ZZZ)Z"⟩ : Cond) ∈ wBIG := wbg (i := 650) (by decide +kernel) (by decide +kernel)
theorem wd651 : (Cond.code ⟨"ClosureRowsModel", "throwing", "(ZZZ)Z"⟩ prog_6_method_3_code 4 (some .boolean) : Cond) ∈ wBIG := wbg (i := 651) (by decide +kernel) (by decide +kernel)
theorem wd652 : (Cond.methodLink "ClosureRowsModel" 98 ⟨"ClosureRowsModel", "look", "()V"⟩ : Cond) ∈ wBIG := wbg (i := 652) (by decide +kernel) (by decide +kernel)
theorem wd654 : (Cond.instanceMethod ⟨"ClosureRowsModel", "look", "()V"⟩ : Cond) ∈ wBIG := wbg (i := 654) (by decide +kernel) (by decide +kernel)
theorem wd655 : (Cond.code ⟨"ClosureRowsModel", "look", "()V"⟩ prog_6_method_13_code 5 none : Cond) ∈ wBIG := wbg (i := 655) (by decide +kernel) (by decide +kernel)
theorem wd656 : (Cond.methodLink "ClosureRowsModel" 75 ⟨"ClosureRowsModel", "isClosed", "(III)Z"⟩ : Cond) ∈ wBIG := wbg (i := 656) (by decide +kernel) (by decide +kernel)
theorem wd658 : (Cond.instanceMethod ⟨"ClosureRowsModel", "isClosed", "(III)Z"⟩ : Cond) ∈ wBIG := wbg (i := 658) (by decide +kernel) (by decide +kernel)
theorem wd659 : (Cond.code ⟨"ClosureRowsModel", "isClosed", "(III)Z"⟩ prog_6_method_11_code 6 (some .boolean) : Cond) ∈ wBIG := wbg (i := 659) (by decide +kernel) (by decide +kernel)
theorem wd660 : (Cond.methodLink "ClosureRowsModel" 65 ⟨"ClosureRowsModel", "isOn", "(III)Z"⟩ : Cond) ∈ wBIG := wbg (i := 660) (by decide +kernel) (by decide +kernel)
theorem wd662 : (Cond.instanceMethod ⟨"ClosureRowsModel", "isOn", "(III)Z"⟩ : Cond) ∈ wBIG := wbg (i := 662) (by decide +kernel) (by decide +kernel)
theorem wd663 : (Cond.code ⟨"ClosureRowsModel", "isOn", "(III)Z"⟩ prog_6_method_10_code 4 (some .boolean) : Cond) ∈ wBIG := wbg (i := 663) (by decide +kernel) (by decide +kernel)
theorem wd664 : (Cond.methodLink "ClosureRowsModel" 68 ⟨"ClosureRowsModel", "holds", "(II)Z"⟩ : Cond) ∈ wBIG := wbg (i := 664) (by decide +kernel) (by decide +kernel)
theorem wd666 : (Cond.instanceMethod ⟨"ClosureRowsModel", "holds", "(II)Z"⟩ : Cond) ∈ wBIG := wbg (i := 666) (by decide +kernel) (by decide +kernel)
theorem wd667 : (Cond.code ⟨"ClosureRowsModel", "holds", "(II)Z"⟩ prog_6_method_9_code 4 (some .boolean) : Cond) ∈ wBIG := wbg (i := 667) (by decide +kernel) (by decide +kernel)
theorem wd668 : (Cond.methodLink "ClosureRowsModel" 78 ⟨"ClosureRowsModel", "has", "(II)Z"⟩ : Cond) ∈ wBIG := wbg (i := 668) (by decide +kernel) (by decide +kernel)
theorem wd670 : (Cond.instanceMethod ⟨"ClosureRowsModel", "has", "(II)Z"⟩ : Cond) ∈ wBIG := wbg (i := 670) (by decide +kernel) (by decide +kernel)
theorem wd671 : (Cond.code ⟨"ClosureRowsModel", "has", "(II)Z"⟩ prog_6_method_12_code 5 (some .boolean) : Cond) ∈ wBIG := wbg (i := 671) (by decide +kernel) (by decide +kernel)
theorem wd672 : (Cond.methodLink "ClosureRowsLaw" 81 ⟨"ClosureRowsModel", "answer", "(IZ)V"⟩ : Cond) ∈ wBIG := wbg (i := 672) (by decide +kernel) (by decide +kernel)
theorem wd673 : (Cond.instanceMethod ⟨"ClosureRowsModel", "answer", "(IZ)V"⟩ : Cond) ∈ wBIG := wbg (i := 673) (by decide +kernel) (by decide +kernel)
theorem wd674 : (Cond.selects "ClosureRowsModel" ⟨"ClosureRowsModel", "answer", "(IZ)V"⟩ ⟨"ClosureRowsModel", "answer", "(IZ)V"⟩ : Cond) ∈ wBIG := wbg (i := 674) (by decide +kernel) (by decide +kernel)
theorem wd675 : (Cond.code ⟨"ClosureRowsModel", "answer", "(IZ)V"⟩ prog_6_method_16_code 4 none : Cond) ∈ wBIG := wbg (i := 675) (by decide +kernel) (by decide +kernel)
theorem wd676 : (Cond.methodLink "ClosureRowsModel" 101 ⟨"ClosureRowsModel", "isClosure", "(I)Z"⟩ : Cond) ∈ wBIG := wbg (i := 676) (by decide +kernel) (by decide +kernel)
theorem wd678 : (Cond.instanceMethod ⟨"ClosureRowsModel", "isClosure", "(I)Z"⟩ : Cond) ∈ wBIG := wbg (i := 678) (by decide +kernel) (by decide +kernel)
theorem wd679 : (Cond.code ⟨"ClosureRowsModel", "isClosure", "(I)Z"⟩ prog_6_method_8_code 2 (some .boolean) : Cond) ∈ wBIG := wbg (i := 679) (by decide +kernel) (by decide +kernel)
theorem wd680 : (Cond.methodLink "ClosureRowsLaw" 85 ⟨"ClosureRowsModel", "lift", "(II)Z"⟩ : Cond) ∈ wBIG := wbg (i := 680) (by decide +kernel) (by decide +kernel)
theorem wd681 : (Cond.instanceMethod ⟨"ClosureRowsModel", "lift", "(II)Z"⟩ : Cond) ∈ wBIG := wbg (i := 681) (by decide +kernel) (by decide +kernel)
theorem wd682 : (Cond.selects "ClosureRowsModel" ⟨"ClosureRowsModel", "lift", "(II)Z"⟩ ⟨"ClosureRowsModel", "lift", "(II)Z"⟩ : Cond) ∈ wBIG := wbg (i := 682) (by decide +kernel) (by decide +kernel)
theorem wd683 : (Cond.code ⟨"ClosureRowsModel", "lift", "(II)Z"⟩ prog_6_method_17_code 5 (some .boolean) : Cond) ∈ wBIG := wbg (i := 683) (by decide +kernel) (by decide +kernel)
theorem wd684 : (Cond.methodLink "ClosureRowsLaw" 88 ⟨"ClosureRowsModel", "incident", "(IZ)V"⟩ : Cond) ∈ wBIG := wbg (i := 684) (by decide +kernel) (by decide +kernel)
theorem wd685 : (Cond.instanceMethod ⟨"ClosureRowsModel", "incident", "(IZ)V"⟩ : Cond) ∈ wBIG := wbg (i := 685) (by decide +kernel) (by decide +kernel)
theorem wd686 : (Cond.selects "ClosureRowsModel" ⟨"ClosureRowsModel", "incident", "(IZ)V"⟩ ⟨"ClosureRowsModel", "incident", "(IZ)V"⟩ : Cond) ∈ wBIG := wbg (i := 686) (by decide +kernel) (by decide +kernel)
theorem wd687 : (Cond.code ⟨"ClosureRowsModel", "incident", "(IZ)V"⟩ prog_6_method_18_code 3 none : Cond) ∈ wBIG := wbg (i := 687) (by decide +kernel) (by decide +kernel)
theorem wd688 : (Cond.methodLink "ClosureRowsLaw" 92 ⟨"ClosureRowsModel", "step", "(III)I"⟩ : Cond) ∈ wBIG := wbg (i := 688) (by decide +kernel) (by decide +kernel)
theorem wd689 : (Cond.instanceMethod ⟨"ClosureRowsModel", "step", "(III)I"⟩ : Cond) ∈ wBIG := wbg (i := 689) (by decide +kernel) (by decide +kernel)
theorem wd690 : (Cond.selects "ClosureRowsModel" ⟨"ClosureRowsModel", "step", "(III)I"⟩ ⟨"ClosureRowsModel", "step", "(III)I"⟩ : Cond) ∈ wBIG := wbg (i := 690) (by decide +kernel) (by decide +kernel)
theorem wd691 : (Cond.code ⟨"ClosureRowsModel", "step", "(III)I"⟩ prog_6_method_19_code 6 (some .int) : Cond) ∈ wBIG := wbg (i := 691) (by decide +kernel) (by decide +kernel)
theorem wd692 : (Cond.methodLink "ClosureRowsModel" 104 ⟨"ClosureRowsModel", "isSide", "(I)Z"⟩ : Cond) ∈ wBIG := wbg (i := 692) (by decide +kernel) (by decide +kernel)
theorem wd693 : (Cond.static ⟨"ClosureRowsModel", "isSide", "(I)Z"⟩ : Cond) ∈ wBIG := wbg (i := 693) (by decide +kernel) (by decide +kernel)
theorem wd694 : (Cond.code ⟨"ClosureRowsModel", "isSide", "(I)Z"⟩ prog_6_method_6_code 1 (some .boolean) : Cond) ∈ wBIG := wbg (i := 694) (by decide +kernel) (by decide +kernel)
theorem wd695 : (Cond.methodLink "ClosureRowsLaw" 96 ⟨"ClosureRowsModel", "tick", "(I)I"⟩ : Cond) ∈ wBIG := wbg (i := 695) (by decide +kernel) (by decide +kernel)
theorem wd696 : (Cond.instanceMethod ⟨"ClosureRowsModel", "tick", "(I)I"⟩ : Cond) ∈ wBIG := wbg (i := 696) (by decide +kernel) (by decide +kernel)
theorem wd697 : (Cond.selects "ClosureRowsModel" ⟨"ClosureRowsModel", "tick", "(I)I"⟩ ⟨"ClosureRowsModel", "tick", "(I)I"⟩ : Cond) ∈ wBIG := wbg (i := 697) (by decide +kernel) (by decide +kernel)
theorem wd698 : (Cond.code ⟨"ClosureRowsModel", "tick", "(I)I"⟩ prog_6_method_20_code 4 (some .int) : Cond) ∈ wBIG := wbg (i := 698) (by decide +kernel) (by decide +kernel)
theorem wd699 : (Cond.methodLink "ClosureRowsLaw" 100 ⟨"ClosureRowsModel", "clock", "()I"⟩ : Cond) ∈ wBIG := wbg (i := 699) (by decide +kernel) (by decide +kernel)
theorem wd700 : (Cond.instanceMethod ⟨"ClosureRowsModel", "clock", "()I"⟩ : Cond) ∈ wBIG := wbg (i := 700) (by decide +kernel) (by decide +kernel)
theorem wd701 : (Cond.selects "ClosureRowsModel" ⟨"ClosureRowsModel", "clock", "()I"⟩ ⟨"ClosureRowsModel", "clock", "()I"⟩ : Cond) ∈ wBIG := wbg (i := 701) (by decide +kernel) (by decide +kernel)
theorem wd702 : (Cond.code ⟨"ClosureRowsModel", "clock", "()I"⟩ prog_6_method_21_code 1 (some .int) : Cond) ∈ wBIG := wbg (i := 702) (by decide +kernel) (by decide +kernel)
theorem wd703 : (Cond.methodLink "ClosureRowsLaw" 103 ⟨"ClosureRowsModel", "closed", "(III)Z"⟩ : Cond) ∈ wBIG := wbg (i := 703) (by decide +kernel) (by decide +kernel)
theorem wd704 : (Cond.instanceMethod ⟨"ClosureRowsModel", "closed", "(III)Z"⟩ : Cond) ∈ wBIG := wbg (i := 704) (by decide +kernel) (by decide +kernel)
theorem wd705 : (Cond.selects "ClosureRowsModel" ⟨"ClosureRowsModel", "closed", "(III)Z"⟩ ⟨"ClosureRowsModel", "closed", "(III)Z"⟩ : Cond) ∈ wBIG := wbg (i := 705) (by decide +kernel) (by decide +kernel)
theorem wd706 : (Cond.code ⟨"ClosureRowsModel", "closed", "(III)Z"⟩ prog_6_method_22_code 4 (some .boolean) : Cond) ∈ wBIG := wbg (i := 706) (by decide +kernel) (by decide +kernel)
theorem wd707 : (Cond.methodLink "ClosureRowsLaw" 107 ⟨"ClosureRowsModel", "minutes", "(IIII)I"⟩ : Cond) ∈ wBIG := wbg (i := 707) (by decide +kernel) (by decide +kernel)
theorem wd708 : (Cond.instanceMethod ⟨"ClosureRowsModel", "minutes", "(IIII)I"⟩ : Cond) ∈ wBIG := wbg (i := 708) (by decide +kernel) (by decide +kernel)
theorem wd709 : (Cond.selects "ClosureRowsModel" ⟨"ClosureRowsModel", "minutes", "(IIII)I"⟩ ⟨"ClosureRowsModel", "minutes", "(IIII)I"⟩ : Cond) ∈ wBIG := wbg (i := 709) (by decide +kernel) (by decide +kernel)
theorem wd710 : (Cond.code ⟨"ClosureRowsModel", "minutes", "(IIII)I"⟩ prog_6_method_23_code 7 (some .int) : Cond) ∈ wBIG := wbg (i := 710) (by decide +kernel) (by decide +kernel)
theorem wd711 : (Cond.methodLink "ClosureRowsLaw" 110 ⟨"ClosureRowsModel", "opens", "(III)I"⟩ : Cond) ∈ wBIG := wbg (i := 711) (by decide +kernel) (by decide +kernel)
theorem wd712 : (Cond.instanceMethod ⟨"ClosureRowsModel", "opens", "(III)I"⟩ : Cond) ∈ wBIG := wbg (i := 712) (by decide +kernel) (by decide +kernel)
theorem wd713 : (Cond.selects "ClosureRowsModel" ⟨"ClosureRowsModel", "opens", "(III)I"⟩ ⟨"ClosureRowsModel", "opens", "(III)I"⟩ : Cond) ∈ wBIG := wbg (i := 713) (by decide +kernel) (by decide +kernel)
theorem wd714 : (Cond.code ⟨"ClosureRowsModel", "opens", "(III)I"⟩ prog_6_method_24_code 5 (some .int) : Cond) ∈ wBIG := wbg (i := 714) (by decide +kernel) (by decide +kernel)
theorem wd715 : (Cond.methodLink "ClosureRowsLaw" 113 ⟨"ClosureRowsModel", "reason", "(IIII)I"⟩ : Cond) ∈ wBIG := wbg (i := 715) (by decide +kernel) (by decide +kernel)
theorem wd716 : (Cond.instanceMethod ⟨"ClosureRowsModel", "reason", "(IIII)I"⟩ : Cond) ∈ wBIG := wbg (i := 716) (by decide +kernel) (by decide +kernel)
theorem wd717 : (Cond.selects "ClosureRowsModel" ⟨"ClosureRowsModel", "reason", "(IIII)I"⟩ ⟨"ClosureRowsModel", "reason", "(IIII)I"⟩ : Cond) ∈ wBIG := wbg (i := 717) (by decide +kernel) (by decide +kernel)
theorem wd718 : (Cond.code ⟨"ClosureRowsModel", "reason", "(IIII)I"⟩ prog_6_method_26_code 9 (some .int) : Cond) ∈ wBIG := wbg (i := 718) (by decide +kernel) (by decide +kernel)
theorem wd719 : (Cond.methodLink "ClosureRowsModel" 108 ⟨"ClosureRowsModel", "endOf", "(I)I"⟩ : Cond) ∈ wBIG := wbg (i := 719) (by decide +kernel) (by decide +kernel)
theorem wd721 : (Cond.instanceMethod ⟨"ClosureRowsModel", "endOf", "(I)I"⟩ : Cond) ∈ wBIG := wbg (i := 721) (by decide +kernel) (by decide +kernel)
theorem wd722 : (Cond.code ⟨"ClosureRowsModel", "endOf", "(I)I"⟩ prog_6_method_25_code 2 (some .int) : Cond) ∈ wBIG := wbg (i := 722) (by decide +kernel) (by decide +kernel)
theorem wd723 : (Cond.constant "ClosureRowsModel" 107 1000000 : Cond) ∈ wBIG := wbg (i := 723) (by decide +kernel) (by decide +kernel)
theorem wd724 : (Cond.methodLink "ClosureRowsLaw" 116 ⟨"ClosureRowsModel", "speed", "(III)I"⟩ : Cond) ∈ wBIG := wbg (i := 724) (by decide +kernel) (by decide +kernel)
theorem wd725 : (Cond.instanceMethod ⟨"ClosureRowsModel", "speed", "(III)I"⟩ : Cond) ∈ wBIG := wbg (i := 725) (by decide +kernel) (by decide +kernel)
theorem wd726 : (Cond.selects "ClosureRowsModel" ⟨"ClosureRowsModel", "speed", "(III)I"⟩ ⟨"ClosureRowsModel", "speed", "(III)I"⟩ : Cond) ∈ wBIG := wbg (i := 726) (by decide +kernel) (by decide +kernel)
theorem wd727 : (Cond.code ⟨"ClosureRowsModel", "speed", "(III)I"⟩ prog_6_method_27_code 7 (some .int) : Cond) ∈ wBIG := wbg (i := 727) (by decide +kernel) (by decide +kernel)
theorem wd728 : (Cond.methodLink "ClosureRowsLaw" 119 ⟨"ClosureRowsModel", "notice", "(II)I"⟩ : Cond) ∈ wBIG := wbg (i := 728) (by decide +kernel) (by decide +kernel)
theorem wd729 : (Cond.instanceMethod ⟨"ClosureRowsModel", "notice", "(II)I"⟩ : Cond) ∈ wBIG := wbg (i := 729) (by decide +kernel) (by decide +kernel)
theorem wd730 : (Cond.selects "ClosureRowsModel" ⟨"ClosureRowsModel", "notice", "(II)I"⟩ ⟨"ClosureRowsModel", "notice", "(II)I"⟩ : Cond) ∈ wBIG := wbg (i := 730) (by decide +kernel) (by decide +kernel)
theorem wd731 : (Cond.code ⟨"ClosureRowsModel", "notice", "(II)I"⟩ prog_6_method_28_code 3 (some .int) : Cond) ∈ wBIG := wbg (i := 731) (by decide +kernel) (by decide +kernel)
theorem wd732 : (Cond.methodLink "ClosureRowsLaw" 122 ⟨"ClosureRowsModel", "blocked", "(I)I"⟩ : Cond) ∈ wBIG := wbg (i := 732) (by decide +kernel) (by decide +kernel)
theorem wd733 : (Cond.instanceMethod ⟨"ClosureRowsModel", "blocked", "(I)I"⟩ : Cond) ∈ wBIG := wbg (i := 733) (by decide +kernel) (by decide +kernel)
theorem wd734 : (Cond.selects "ClosureRowsModel" ⟨"ClosureRowsModel", "blocked", "(I)I"⟩ ⟨"ClosureRowsModel", "blocked", "(I)I"⟩ : Cond) ∈ wBIG := wbg (i := 734) (by decide +kernel) (by decide +kernel)
theorem wd735 : (Cond.code ⟨"ClosureRowsModel", "blocked", "(I)I"⟩ prog_6_method_29_code 4 (some .int) : Cond) ∈ wBIG := wbg (i := 735) (by decide +kernel) (by decide +kernel)
theorem wd736 : (Cond.arrayClass .long : Cond) ∈ wBIG := wbg (i := 736) (by decide +kernel) (by decide +kernel)
theorem wd0 : (Cond.selects "java/lang/Throwable" ⟨"java/lang/Throwable", "fillInStackTrace", "(I)Ljava/lang/Throwable;"⟩ ⟨"java/lang/Throwable", "fillInStackTrace", "(I)Ljava/lang/Throwable;"⟩ : Cond) ∈ wBIG := wbg (i := 0) (by decide +kernel) (by decide +kernel)
theorem wd1 : (Cond.selects "ClosureRows" ⟨"ClosureRows", "tellChanges", "()V"⟩ ⟨"ClosureRows", "tellChanges", "()V"⟩ : Cond) ∈ wBIG := wbg (i := 1) (by decide +kernel) (by decide +kernel)
theorem wd2 : (Cond.selects "ClosureRows$Closures" ⟨"ClosureRows$Closures", "holds", "(II)Z"⟩ ⟨"ClosureRows$Closures", "holds", "(II)Z"⟩ : Cond) ∈ wBIG := wbg (i := 2) (by decide +kernel) (by decide +kernel)
theorem wd3 : (Cond.selects "ClosureRows$Closures" ⟨"ClosureRows$Closures", "minuteOfPeriod", "(II)I"⟩ ⟨"ClosureRows$Closures", "minuteOfPeriod", "(II)I"⟩ : Cond) ∈ wBIG := wbg (i := 3) (by decide +kernel) (by decide +kernel)
theorem wd4 : (Cond.selects "ClosureRows$Closures" ⟨"ClosureRows$Closures", "markSides", "([ZI)V"⟩ ⟨"ClosureRows$Closures", "markSides", "([ZI)V"⟩ : Cond) ∈ wBIG := wbg (i := 4) (by decide +kernel) (by decide +kernel)
theorem wd5 : (Cond.selects "ClosureRows" ⟨"ClosureRows", "tellUnits", "(I)V"⟩ ⟨"ClosureRows", "tellUnits", "(I)V"⟩ : Cond) ∈ wBIG := wbg (i := 5) (by decide +kernel) (by decide +kernel)
theorem wd6 : (Cond.selects "ClosureRows" ⟨"ClosureRows", "needClosure", "(I)V"⟩ ⟨"ClosureRows", "needClosure", "(I)V"⟩ : Cond) ∈ wBIG := wbg (i := 6) (by decide +kernel) (by decide +kernel)
theorem wd7 : (Cond.selects "ClosureRows$Closures" ⟨"ClosureRows$Closures", "changeOf", "(II)I"⟩ ⟨"ClosureRows$Closures", "changeOf", "(II)I"⟩ : Cond) ∈ wBIG := wbg (i := 7) (by decide +kernel) (by decide +kernel)
theorem wd8 : (Cond.selects "ClosureRows$Closures" ⟨"ClosureRows$Closures", "holdsOn", "(III)Z"⟩ ⟨"ClosureRows$Closures", "holdsOn", "(III)Z"⟩ : Cond) ∈ wBIG := wbg (i := 8) (by decide +kernel) (by decide +kernel)
theorem wd9 : (Cond.selects "ClosureRows$Closures" ⟨"ClosureRows$Closures", "covers", "(II)Z"⟩ ⟨"ClosureRows$Closures", "covers", "(II)Z"⟩ : Cond) ∈ wBIG := wbg (i := 9) (by decide +kernel) (by decide +kernel)
theorem wd10 : (Cond.selects "ClosureRows$Closures" ⟨"ClosureRows$Closures", "rankOf", "(III)I"⟩ ⟨"ClosureRows$Closures", "rankOf", "(III)I"⟩ : Cond) ∈ wBIG := wbg (i := 10) (by decide +kernel) (by decide +kernel)
theorem wd11 : (Cond.selects "ClosureRows$Closures" ⟨"ClosureRows$Closures", "endsAheadOf", "(II)Z"⟩ ⟨"ClosureRows$Closures", "endsAheadOf", "(II)Z"⟩ : Cond) ∈ wBIG := wbg (i := 11) (by decide +kernel) (by decide +kernel)
theorem wd12 : (Cond.selects "ClosureRowsModel" ⟨"ClosureRowsModel", "throwing", "(ZZZ)Z"⟩ ⟨"ClosureRowsModel", "throwing", "(ZZZ)Z"⟩ : Cond) ∈ wBIG := wbg (i := 12) (by decide +kernel) (by decide +kernel)
theorem wd13 : (Cond.selects "ClosureRowsModel" ⟨"ClosureRowsModel", "look", "()V"⟩ ⟨"ClosureRowsModel", "look", "()V"⟩ : Cond) ∈ wBIG := wbg (i := 13) (by decide +kernel) (by decide +kernel)
theorem wd14 : (Cond.selects "ClosureRowsModel" ⟨"ClosureRowsModel", "isClosed", "(III)Z"⟩ ⟨"ClosureRowsModel", "isClosed", "(III)Z"⟩ : Cond) ∈ wBIG := wbg (i := 14) (by decide +kernel) (by decide +kernel)
theorem wd15 : (Cond.selects "ClosureRowsModel" ⟨"ClosureRowsModel", "isOn", "(III)Z"⟩ ⟨"ClosureRowsModel", "isOn", "(III)Z"⟩ : Cond) ∈ wBIG := wbg (i := 15) (by decide +kernel) (by decide +kernel)
theorem wd16 : (Cond.selects "ClosureRowsModel" ⟨"ClosureRowsModel", "holds", "(II)Z"⟩ ⟨"ClosureRowsModel", "holds", "(II)Z"⟩ : Cond) ∈ wBIG := wbg (i := 16) (by decide +kernel) (by decide +kernel)
theorem wd17 : (Cond.selects "ClosureRowsModel" ⟨"ClosureRowsModel", "has", "(II)Z"⟩ ⟨"ClosureRowsModel", "has", "(II)Z"⟩ : Cond) ∈ wBIG := wbg (i := 17) (by decide +kernel) (by decide +kernel)
theorem wd18 : (Cond.selects "ClosureRowsModel" ⟨"ClosureRowsModel", "isClosure", "(I)Z"⟩ ⟨"ClosureRowsModel", "isClosure", "(I)Z"⟩ : Cond) ∈ wBIG := wbg (i := 18) (by decide +kernel) (by decide +kernel)
theorem wd19 : (Cond.selects "ClosureRowsModel" ⟨"ClosureRowsModel", "endOf", "(I)I"⟩ ⟨"ClosureRowsModel", "endOf", "(I)I"⟩ : Cond) ∈ wBIG := wbg (i := 19) (by decide +kernel) (by decide +kernel)
