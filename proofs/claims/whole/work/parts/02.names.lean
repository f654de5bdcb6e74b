/-! ===== BEGIN printed: names, fields, word lists, decode rows ===== -/
def RX0 : String := "DaySimulate$Day"
def TX0 : u_T := fun k => match k with
  | 0 => ("DaySimulate$Day", "minute", "[I", true)
  | 1 => ("DaySimulate$Day", "area", "[I", true)
  | 2 => ("DaySimulate$Day", "rank", "[I", true)
  | 3 => ("DaySimulate$Day", "lasts", "[I", true)
  | _ => ("DaySimulate$Day", "calls", "I", false)
def tyX0 : Nat → FieldType := fun k => match k with
  | 0 => .array .int
  | 1 => .array .int
  | 2 => .array .int
  | 3 => .array .int
  | _ => .int
abbrev wsX00 : List Cond := u_ws RX0 TX0 5
theorem nmX0 : ∀ a, a < 5 → ∀ b, b < 5 → a ≠ b → (TX0 a).2.1 ≠ (TX0 b).2.1 := by decide +kernel
theorem tyX0_ok : ∀ k, k < 5 → parseFieldDescriptor (TX0 k).2.2.1 = some (tyX0 k) := by decide +kernel
abbrev cX0_init : ByteArray := prog_2_method_1_code
def yX0_init : MethodName := ⟨RX0, "<init>", "()V"⟩
abbrev cX0_draw : ByteArray := prog_2_method_2_code
def yX0_draw : MethodName := ⟨RX0, "draw", "(LDaySimulate$Town;III)V"⟩
abbrev cX0_mix : ByteArray := prog_2_method_3_code
def yX0_mix : MethodName := ⟨RX0, "mix", "(I)I"⟩
def RX1 : String := "DaySimulate$Fleet"
def TX1 : u_T := fun k => match k with
  | 0 => ("DaySimulate$Fleet", "stationOf", "[[I", true)
  | _ => ("DaySimulate$Fleet", "units", "I", false)
def tyX1 : Nat → FieldType := fun k => match k with
  | 0 => .array (.array .int)
  | _ => .int
abbrev wsX10 : List Cond := u_ws RX1 TX1 2
theorem nmX1 : ∀ a, a < 2 → ∀ b, b < 2 → a ≠ b → (TX1 a).2.1 ≠ (TX1 b).2.1 := by decide +kernel
theorem tyX1_ok : ∀ k, k < 2 → parseFieldDescriptor (TX1 k).2.2.1 = some (tyX1 k) := by decide +kernel
abbrev cX1_init : ByteArray := prog_3_method_1_code
def yX1_init : MethodName := ⟨RX1, "<init>", "()V"⟩
abbrev cX1_addUnit : ByteArray := prog_3_method_2_code
def yX1_addUnit : MethodName := ⟨RX1, "addUnit", "(I)I"⟩
abbrev cX1_hasRoomInAllVariants : ByteArray := prog_3_method_3_code
def yX1_hasRoomInAllVariants : MethodName := ⟨RX1, "hasRoomInAllVariants", "(I)Z"⟩
abbrev cX1_countOthers : ByteArray := prog_3_method_4_code
def yX1_countOthers : MethodName := ⟨RX1, "countOthers", "(III)I"⟩
def RX2 : String := "DaySimulate$Play"
def TX2 : u_T := fun k => match k with
  | 0 => ("DaySimulate$Play", "day", "LDaySimulate$Day;", true)
  | 1 => ("DaySimulate$Play", "unitOf", "[I", true)
  | 2 => ("DaySimulate$Play", "wayOf", "[I", true)
  | 3 => ("DaySimulate$Play", "arrival", "[I", true)
  | 4 => ("DaySimulate$Play", "workOf", "[I", true)
  | 5 => ("DaySimulate$Play", "leftOut", "[Z", true)
  | 6 => ("DaySimulate$Play", "wayTo", "[[I", true)
  | 7 => ("DaySimulate$Play", "backAt", "[I", true)
  | 8 => ("DaySimulate$Play", "lateInHour", "[I", true)
  | 9 => ("DaySimulate$Play", "units", "I", false)
  | _ => ("DaySimulate$Play", "missedMinutes", "I", false)
def tyX2 : Nat → FieldType := fun k => match k with
  | 0 => .object "DaySimulate$Day"
  | 1 => .array .int
  | 2 => .array .int
  | 3 => .array .int
  | 4 => .array .int
  | 5 => .array .boolean
  | 6 => .array (.array .int)
  | 7 => .array .int
  | 8 => .array .int
  | 9 => .int
  | _ => .int
abbrev wsX20 : List Cond := u_ws RX2 TX2 11
theorem nmX2 : ∀ a, a < 11 → ∀ b, b < 11 → a ≠ b → (TX2 a).2.1 ≠ (TX2 b).2.1 := by decide +kernel
theorem tyX2_ok : ∀ k, k < 11 → parseFieldDescriptor (TX2 k).2.2.1 = some (tyX2 k) := by decide +kernel
abbrev cX2_init : ByteArray := prog_4_method_1_code
def yX2_init : MethodName := ⟨RX2, "<init>", "()V"⟩
abbrev cX2_forget : ByteArray := prog_4_method_2_code
def yX2_forget : MethodName := ⟨RX2, "forget", "()V"⟩
abbrev cX2_begin : ByteArray := prog_4_method_3_code
def yX2_begin : MethodName := ⟨RX2, "begin", "(LDaySimulate$Town;LDaySimulate$Fleet;II)V"⟩
abbrev cX2_post : ByteArray := prog_4_method_4_code
def yX2_post : MethodName := ⟨RX2, "post", "(LDaySimulate$Town;III)V"⟩
abbrev cX2_playOut : ByteArray := prog_4_method_5_code
def yX2_playOut : MethodName := ⟨RX2, "playOut", "()V"⟩
abbrev cX2_sendUnits : ByteArray := prog_4_method_6_code
def yX2_sendUnits : MethodName := ⟨RX2, "sendUnits", "(I)V"⟩
abbrev cX2_send : ByteArray := prog_4_method_7_code
def yX2_send : MethodName := ⟨RX2, "send", "(III)V"⟩
abbrev cX2_firstWaiting : ByteArray := prog_4_method_8_code
def yX2_firstWaiting : MethodName := ⟨RX2, "firstWaiting", "(I)I"⟩
abbrev cX2_goesAhead : ByteArray := prog_4_method_9_code
def yX2_goesAhead : MethodName := ⟨RX2, "goesAhead", "(II)Z"⟩
abbrev cX2_nearestFree : ByteArray := prog_4_method_10_code
def yX2_nearestFree : MethodName := ⟨RX2, "nearestFree", "(II)I"⟩
abbrev cX2_isFree : ByteArray := prog_4_method_11_code
def yX2_isFree : MethodName := ⟨RX2, "isFree", "(II)Z"⟩
abbrev cX2_isAnyFree : ByteArray := prog_4_method_12_code
def yX2_isAnyFree : MethodName := ⟨RX2, "isAnyFree", "(I)Z"⟩
abbrev cX2_nextEvent : ByteArray := prog_4_method_13_code
def yX2_nextEvent : MethodName := ⟨RX2, "nextEvent", "(I)I"⟩
abbrev cX2_delay : ByteArray := prog_4_method_14_code
def yX2_delay : MethodName := ⟨RX2, "delay", "(I)I"⟩
abbrev cX2_isLate : ByteArray := prog_4_method_15_code
def yX2_isLate : MethodName := ⟨RX2, "isLate", "(II)Z"⟩
abbrev cX2_whyLate : ByteArray := prog_4_method_16_code
def yX2_whyLate : MethodName := ⟨RX2, "whyLate", "(II)I"⟩
abbrev cX2_countLate : ByteArray := prog_4_method_17_code
def yX2_countLate : MethodName := ⟨RX2, "countLate", "(I)I"⟩
abbrev cX2_countServed : ByteArray := prog_4_method_18_code
def yX2_countServed : MethodName := ⟨RX2, "countServed", "()I"⟩
abbrev cX2_countArrivedBy : ByteArray := prog_4_method_19_code
def yX2_countArrivedBy : MethodName := ⟨RX2, "countArrivedBy", "(I)I"⟩
abbrev cX2_sumOfDelays : ByteArray := prog_4_method_20_code
def yX2_sumOfDelays : MethodName := ⟨RX2, "sumOfDelays", "()J"⟩
abbrev cX2_hourOfMostLate : ByteArray := prog_4_method_21_code
def yX2_hourOfMostLate : MethodName := ⟨RX2, "hourOfMostLate", "(I)I"⟩
def RX3 : String := "DaySimulate$Town"
def TX3 : u_T := fun k => match k with
  | 0 => ("DaySimulate$Town", "stationX", "[I", true)
  | 1 => ("DaySimulate$Town", "stationY", "[I", true)
  | 2 => ("DaySimulate$Town", "areaX", "[I", true)
  | 3 => ("DaySimulate$Town", "areaY", "[I", true)
  | 4 => ("DaySimulate$Town", "weight", "[I", true)
  | 5 => ("DaySimulate$Town", "stations", "I", false)
  | 6 => ("DaySimulate$Town", "areas", "I", false)
  | _ => ("DaySimulate$Town", "weightSum", "I", false)
def tyX3 : Nat → FieldType := fun k => match k with
  | 0 => .array .int
  | 1 => .array .int
  | 2 => .array .int
  | 3 => .array .int
  | 4 => .array .int
  | 5 => .int
  | 6 => .int
  | _ => .int
abbrev wsX30 : List Cond := u_ws RX3 TX3 8
theorem nmX3 : ∀ a, a < 8 → ∀ b, b < 8 → a ≠ b → (TX3 a).2.1 ≠ (TX3 b).2.1 := by decide +kernel
theorem tyX3_ok : ∀ k, k < 8 → parseFieldDescriptor (TX3 k).2.2.1 = some (tyX3 k) := by decide +kernel
abbrev cX3_init : ByteArray := prog_5_method_1_code
def yX3_init : MethodName := ⟨RX3, "<init>", "()V"⟩
abbrev cX3_addStation : ByteArray := prog_5_method_2_code
def yX3_addStation : MethodName := ⟨RX3, "addStation", "(II)I"⟩
abbrev cX3_addArea : ByteArray := prog_5_method_3_code
def yX3_addArea : MethodName := ⟨RX3, "addArea", "(III)I"⟩
abbrev cX3_areaOfDraw : ByteArray := prog_5_method_4_code
def yX3_areaOfDraw : MethodName := ⟨RX3, "areaOfDraw", "(I)I"⟩
abbrev cX3_wayMinutes : ByteArray := prog_5_method_5_code
def yX3_wayMinutes : MethodName := ⟨RX3, "wayMinutes", "(III)I"⟩
def RX4 : String := "DaySimulate"
def TX4 : u_T := fun k => match k with
  | 0 => ("DaySimulate", "town", "LDaySimulate$Town;", true)
  | 1 => ("DaySimulate", "fleet", "LDaySimulate$Fleet;", true)
  | 2 => ("DaySimulate", "play", "LDaySimulate$Play;", true)
  | 3 => ("DaySimulate", "pace", "I", false)
  | _ => ("DaySimulate", "mark", "I", false)
def tyX4 : Nat → FieldType := fun k => match k with
  | 0 => .object "DaySimulate$Town"
  | 1 => .object "DaySimulate$Fleet"
  | 2 => .object "DaySimulate$Play"
  | 3 => .int
  | _ => .int
abbrev wsX40 : List Cond := u_ws RX4 TX4 5
theorem nmX4 : ∀ a, a < 5 → ∀ b, b < 5 → a ≠ b → (TX4 a).2.1 ≠ (TX4 b).2.1 := by decide +kernel
theorem tyX4_ok : ∀ k, k < 5 → parseFieldDescriptor (TX4 k).2.2.1 = some (tyX4 k) := by decide +kernel
abbrev cX4_init : ByteArray := prog_1_method_1_code
def yX4_init : MethodName := ⟨RX4, "<init>", "()V"⟩
abbrev cX4_station : ByteArray := prog_1_method_2_code
def yX4_station : MethodName := ⟨RX4, "station", "(II)I"⟩
abbrev cX4_area : ByteArray := prog_1_method_3_code
def yX4_area : MethodName := ⟨RX4, "area", "(III)I"⟩
abbrev cX4_unit : ByteArray := prog_1_method_4_code
def yX4_unit : MethodName := ⟨RX4, "unit", "(I)I"⟩
abbrev cX4_change : ByteArray := prog_1_method_5_code
def yX4_change : MethodName := ⟨RX4, "change", "(III)V"⟩
abbrev cX4_rules : ByteArray := prog_1_method_6_code
def yX4_rules : MethodName := ⟨RX4, "rules", "(II)V"⟩
abbrev cX4_run : ByteArray := prog_1_method_7_code
def yX4_run : MethodName := ⟨RX4, "run", "(IIII)I"⟩
abbrev cX4_call : ByteArray := prog_1_method_8_code
def yX4_call : MethodName := ⟨RX4, "call", "(II)I"⟩
abbrev cX4_share : ByteArray := prog_1_method_9_code
def yX4_share : MethodName := ⟨RX4, "share", "(I)I"⟩
abbrev cX4_mean : ByteArray := prog_1_method_10_code
def yX4_mean : MethodName := ⟨RX4, "mean", "()I"⟩
abbrev cX4_missed : ByteArray := prog_1_method_11_code
def yX4_missed : MethodName := ⟨RX4, "missed", "()I"⟩
abbrev cX4_work : ByteArray := prog_1_method_12_code
def yX4_work : MethodName := ⟨RX4, "work", "(I)I"⟩
abbrev cX4_worst : ByteArray := prog_1_method_13_code
def yX4_worst : MethodName := ⟨RX4, "worst", "()I"⟩
abbrev cX4_arrived : ByteArray := prog_1_method_14_code
def yX4_arrived : MethodName := ⟨RX4, "arrived", "(I)I"⟩
abbrev cX4_unlucky : ByteArray := prog_1_method_15_code
def yX4_unlucky : MethodName := ⟨RX4, "unlucky", "(IIIII)I"⟩
abbrev cX4_compare : ByteArray := prog_1_method_16_code
def yX4_compare : MethodName := ⟨RX4, "compare", "(IIIIII)I"⟩
abbrev cX4_lateOn : ByteArray := prog_1_method_17_code
def yX4_lateOn : MethodName := ⟨RX4, "lateOn", "(IIII)I"⟩
abbrev cX4_waysOfHeads : ByteArray := prog_1_method_18_code
def yX4_waysOfHeads : MethodName := ⟨RX4, "waysOfHeads", "(II)I"⟩
abbrev cX4_lowestTerm : ByteArray := prog_1_method_19_code
def yX4_lowestTerm : MethodName := ⟨RX4, "lowestTerm", "(IIZ)I"⟩
abbrev cX4_commonDivisor : ByteArray := prog_1_method_20_code
def yX4_commonDivisor : MethodName := ⟨RX4, "commonDivisor", "(II)I"⟩
abbrev cX4_isWithin : ByteArray := prog_1_method_21_code
def yX4_isWithin : MethodName := ⟨RX4, "isWithin", "(III)Z"⟩
abbrev cX4_isBelow : ByteArray := prog_1_method_22_code
def yX4_isBelow : MethodName := ⟨RX4, "isBelow", "(II)Z"⟩
abbrev cX4_isPlace : ByteArray := prog_1_method_23_code
def yX4_isPlace : MethodName := ⟨RX4, "isPlace", "(II)Z"⟩
abbrev cX4_needKnown : ByteArray := prog_1_method_24_code
def yX4_needKnown : MethodName := ⟨RX4, "needKnown", "(Z)V"⟩
abbrev cX4_needRange : ByteArray := prog_1_method_25_code
def yX4_needRange : MethodName := ⟨RX4, "needRange", "(Z)V"⟩
abbrev cX4_needState : ByteArray := prog_1_method_26_code
def yX4_needState : MethodName := ⟨RX4, "needState", "(Z)V"⟩
abbrev cX4_needRoom : ByteArray := prog_1_method_27_code
def yX4_needRoom : MethodName := ⟨RX4, "needRoom", "(Z)V"⟩
def RX5 : String := "DaySimulateModel"
def TX5 : u_T := fun k => match k with
  | 0 => ("DaySimulateModel", "thrown", "I", false)
  | 1 => ("DaySimulateModel", "pace", "I", false)
  | 2 => ("DaySimulateModel", "mark", "I", false)
  | 3 => ("DaySimulateModel", "stations", "I", false)
  | 4 => ("DaySimulateModel", "stationX", "[I", true)
  | 5 => ("DaySimulateModel", "stationY", "[I", true)
  | 6 => ("DaySimulateModel", "areas", "I", false)
  | 7 => ("DaySimulateModel", "areaX", "[I", true)
  | 8 => ("DaySimulateModel", "areaY", "[I", true)
  | 9 => ("DaySimulateModel", "weight", "[I", true)
  | 10 => ("DaySimulateModel", "units", "I", false)
  | 11 => ("DaySimulateModel", "stands", "[I", true)
  | 12 => ("DaySimulateModel", "calls", "I", false)
  | 13 => ("DaySimulateModel", "minute", "[I", true)
  | 14 => ("DaySimulateModel", "place", "[I", true)
  | 15 => ("DaySimulateModel", "rank", "[I", true)
  | 16 => ("DaySimulateModel", "lasts", "[I", true)
  | 17 => ("DaySimulateModel", "unit", "[I", true)
  | 18 => ("DaySimulateModel", "came", "[I", true)
  | 19 => ("DaySimulateModel", "way", "[I", true)
  | 20 => ("DaySimulateModel", "back", "[I", true)
  | 21 => ("DaySimulateModel", "work", "[I", true)
  | 22 => ("DaySimulateModel", "busy", "[I", true)
  | _ => ("DaySimulateModel", "missed", "I", false)
def tyX5 : Nat → FieldType := fun k => match k with
  | 0 => .int
  | 1 => .int
  | 2 => .int
  | 3 => .int
  | 4 => .array .int
  | 5 => .array .int
  | 6 => .int
  | 7 => .array .int
  | 8 => .array .int
  | 9 => .array .int
  | 10 => .int
  | 11 => .array .int
  | 12 => .int
  | 13 => .array .int
  | 14 => .array .int
  | 15 => .array .int
  | 16 => .array .int
  | 17 => .array .int
  | 18 => .array .int
  | 19 => .array .int
  | 20 => .array .int
  | 21 => .array .int
  | 22 => .array .int
  | _ => .int
abbrev wsX50 : List Cond := u_ws RX5 TX5 24
theorem nmX5 : ∀ a, a < 24 → ∀ b, b < 24 → a ≠ b → (TX5 a).2.1 ≠ (TX5 b).2.1 := by decide +kernel
theorem tyX5_ok : ∀ k, k < 24 → parseFieldDescriptor (TX5 k).2.2.1 = some (tyX5 k) := by decide +kernel
abbrev cX5_init : ByteArray := prog_7_method_1_code
def yX5_init : MethodName := ⟨RX5, "<init>", "()V"⟩
abbrev cX5_thrown : ByteArray := prog_7_method_2_code
def yX5_thrown : MethodName := ⟨RX5, "thrown", "()I"⟩
abbrev cX5_throwing : ByteArray := prog_7_method_3_code
def yX5_throwing : MethodName := ⟨RX5, "throwing", "(ZZZ)Z"⟩
abbrev cX5_in : ByteArray := prog_7_method_4_code
def yX5_in : MethodName := ⟨RX5, "in", "(III)Z"⟩
abbrev cX5_isSpot : ByteArray := prog_7_method_5_code
def yX5_isSpot : MethodName := ⟨RX5, "isSpot", "(II)Z"⟩
abbrev cX5_station : ByteArray := prog_7_method_6_code
def yX5_station : MethodName := ⟨RX5, "station", "(II)I"⟩
abbrev cX5_area : ByteArray := prog_7_method_7_code
def yX5_area : MethodName := ⟨RX5, "area", "(III)I"⟩
abbrev cX5_at : ByteArray := prog_7_method_8_code
def yX5_at : MethodName := ⟨RX5, "at", "(III)I"⟩
abbrev cX5_isFull : ByteArray := prog_7_method_9_code
def yX5_isFull : MethodName := ⟨RX5, "isFull", "(I)Z"⟩
abbrev cX5_unit : ByteArray := prog_7_method_10_code
def yX5_unit : MethodName := ⟨RX5, "unit", "(I)I"⟩
abbrev cX5_change : ByteArray := prog_7_method_11_code
def yX5_change : MethodName := ⟨RX5, "change", "(III)V"⟩
abbrev cX5_rules : ByteArray := prog_7_method_12_code
def yX5_rules : MethodName := ⟨RX5, "rules", "(II)V"⟩
abbrev cX5_mix : ByteArray := prog_7_method_13_code
def yX5_mix : MethodName := ⟨RX5, "mix", "(I)I"⟩
abbrev cX5_areaOf : ByteArray := prog_7_method_14_code
def yX5_areaOf : MethodName := ⟨RX5, "areaOf", "(I)I"⟩
abbrev cX5_draw : ByteArray := prog_7_method_15_code
def yX5_draw : MethodName := ⟨RX5, "draw", "(III)V"⟩
abbrev cX5_size : ByteArray := prog_7_method_16_code
def yX5_size : MethodName := ⟨RX5, "size", "(I)I"⟩
abbrev cX5_wayOf : ByteArray := prog_7_method_17_code
def yX5_wayOf : MethodName := ⟨RX5, "wayOf", "(II)I"⟩
abbrev cX5_next : ByteArray := prog_7_method_18_code
def yX5_next : MethodName := ⟨RX5, "next", "(I)I"⟩
abbrev cX5_nearest : ByteArray := prog_7_method_19_code
def yX5_nearest : MethodName := ⟨RX5, "nearest", "(III)I"⟩
abbrev cX5_send : ByteArray := prog_7_method_20_code
def yX5_send : MethodName := ⟨RX5, "send", "(IIII)V"⟩
abbrev cX5_later : ByteArray := prog_7_method_21_code
def yX5_later : MethodName := ⟨RX5, "later", "(I)I"⟩
abbrev cX5_play : ByteArray := prog_7_method_22_code
def yX5_play : MethodName := ⟨RX5, "play", "(IIII)V"⟩
abbrev cX5_forget : ByteArray := prog_7_method_23_code
def yX5_forget : MethodName := ⟨RX5, "forget", "()V"⟩
abbrev cX5_isLate : ByteArray := prog_7_method_24_code
def yX5_isLate : MethodName := ⟨RX5, "isLate", "(I)Z"⟩
abbrev cX5_late : ByteArray := prog_7_method_25_code
def yX5_late : MethodName := ⟨RX5, "late", "()I"⟩
abbrev cX5_isDay : ByteArray := prog_7_method_26_code
def yX5_isDay : MethodName := ⟨RX5, "isDay", "(I)Z"⟩
abbrev cX5_run : ByteArray := prog_7_method_27_code
def yX5_run : MethodName := ⟨RX5, "run", "(IIII)I"⟩
abbrev cX5_reason : ByteArray := prog_7_method_28_code
def yX5_reason : MethodName := ⟨RX5, "reason", "(I)I"⟩
abbrev cX5_call : ByteArray := prog_7_method_29_code
def yX5_call : MethodName := ⟨RX5, "call", "(II)I"⟩
abbrev cX5_common : ByteArray := prog_7_method_30_code
def yX5_common : MethodName := ⟨RX5, "common", "(JJ)J"⟩
abbrev cX5_share : ByteArray := prog_7_method_31_code
def yX5_share : MethodName := ⟨RX5, "share", "(I)I"⟩
abbrev cX5_mean : ByteArray := prog_7_method_32_code
def yX5_mean : MethodName := ⟨RX5, "mean", "()I"⟩
abbrev cX5_missed : ByteArray := prog_7_method_33_code
def yX5_missed : MethodName := ⟨RX5, "missed", "()I"⟩
abbrev cX5_work : ByteArray := prog_7_method_34_code
def yX5_work : MethodName := ⟨RX5, "work", "(I)I"⟩
abbrev cX5_worst : ByteArray := prog_7_method_35_code
def yX5_worst : MethodName := ⟨RX5, "worst", "()I"⟩
abbrev cX5_arrived : ByteArray := prog_7_method_36_code
def yX5_arrived : MethodName := ⟨RX5, "arrived", "(I)I"⟩
abbrev cX5_unlucky : ByteArray := prog_7_method_37_code
def yX5_unlucky : MethodName := ⟨RX5, "unlucky", "(IIIII)I"⟩
abbrev cX5_tail : ByteArray := prog_7_method_38_code
def yX5_tail : MethodName := ⟨RX5, "tail", "(II)J"⟩
abbrev cX5_compare : ByteArray := prog_7_method_39_code
def yX5_compare : MethodName := ⟨RX5, "compare", "(IIIIII)I"⟩
def RJ9 : String := "java/lang/Math"
def TJ9 : u_T := fun k => match k with
  | _ => ("", "", "", false)
def tyJ9 : Nat → FieldType := fun k => match k with
  | _ => .int
abbrev wsJ90 : List Cond := u_ws RJ9 TJ9 0
theorem nmJ9 : ∀ a, a < 0 → ∀ b, b < 0 → a ≠ b → (TJ9 a).2.1 ≠ (TJ9 b).2.1 := by decide +kernel
theorem tyJ9_ok : ∀ k, k < 0 → parseFieldDescriptor (TJ9 k).2.2.1 = some (tyJ9 k) := by decide +kernel
abbrev cJ9_abs_0f7a4 : ByteArray := prog_13_method_59_code
def yJ9_abs_0f7a4 : MethodName := ⟨RJ9, "abs", "(I)I"⟩
abbrev cJ9_max_7cf53 : ByteArray := prog_13_method_65_code
def yJ9_max_7cf53 : MethodName := ⟨RJ9, "max", "(II)I"⟩
abbrev cJ9_min_7cf53 : ByteArray := prog_13_method_69_code
def yJ9_min_7cf53 : MethodName := ⟨RJ9, "min", "(II)I"⟩
def RJ0 : String := "java/lang/String"
def TJ0 : u_T := fun k => match k with
  | _ => ("", "", "", false)
def tyJ0 : Nat → FieldType := fun k => match k with
  | _ => .int
abbrev wsJ00 : List Cond := u_ws RJ0 TJ0 0
theorem nmJ0 : ∀ a, a < 0 → ∀ b, b < 0 → a ≠ b → (TJ0 a).2.1 ≠ (TJ0 b).2.1 := by decide +kernel
theorem tyJ0_ok : ∀ k, k < 0 → parseFieldDescriptor (TJ0 k).2.2.1 = some (tyJ0 k) := by decide +kernel
def RL : String := "DaySimulateLaw"
abbrev cL_station : ByteArray := method_3_code
def yL_station : MethodName := ⟨RL, "station", "(LDaySimulate;II[J)I"⟩
abbrev cL_area : ByteArray := method_4_code
def yL_area : MethodName := ⟨RL, "area", "(LDaySimulate;III[J)I"⟩
abbrev cL_unit : ByteArray := method_5_code
def yL_unit : MethodName := ⟨RL, "unit", "(LDaySimulate;I[J)I"⟩
abbrev cL_change : ByteArray := method_6_code
def yL_change : MethodName := ⟨RL, "change", "(LDaySimulate;III)I"⟩
abbrev cL_rules : ByteArray := method_7_code
def yL_rules : MethodName := ⟨RL, "rules", "(LDaySimulate;II)I"⟩
abbrev cL_run : ByteArray := method_8_code
def yL_run : MethodName := ⟨RL, "run", "(LDaySimulate;IIII[J)I"⟩
abbrev cL_call : ByteArray := method_9_code
def yL_call : MethodName := ⟨RL, "call", "(LDaySimulate;II[J)I"⟩
abbrev cL_share : ByteArray := method_10_code
def yL_share : MethodName := ⟨RL, "share", "(LDaySimulate;I[J)I"⟩
abbrev cL_mean : ByteArray := method_11_code
def yL_mean : MethodName := ⟨RL, "mean", "(LDaySimulate;[J)I"⟩
abbrev cL_work : ByteArray := method_12_code
def yL_work : MethodName := ⟨RL, "work", "(LDaySimulate;I[J)I"⟩
abbrev cL_arrived : ByteArray := method_13_code
def yL_arrived : MethodName := ⟨RL, "arrived", "(LDaySimulate;I[J)I"⟩
abbrev cL_unlucky : ByteArray := method_14_code
def yL_unlucky : MethodName := ⟨RL, "unlucky", "(LDaySimulate;IIIII[J)I"⟩
abbrev cL_compare : ByteArray := method_15_code
def yL_compare : MethodName := ⟨RL, "compare", "(LDaySimulate;IIIIII[J)I"⟩
abbrev cL_law : ByteArray := code
def yL_law : MethodName := ⟨RL, "law", "([I)Z"⟩
def wsX0_init : List Cond := .code yX0_init cX0_init 1 none :: ([.methodLink RX0 3 objectInit, .instanceMethod objectInit, .code objectInit ⟨#[0xb1]⟩ 1 none, .arrayClass .int, .fieldLink RX0 9 "DaySimulate$Day" "minute" "[I", .fieldLink RX0 15 "DaySimulate$Day" "area" "[I", .fieldLink RX0 18 "DaySimulate$Day" "rank" "[I", .fieldLink RX0 21 "DaySimulate$Day" "lasts" "[I", .fieldLink RX0 24 "DaySimulate$Day" "calls" "I"] ++ wsX00)
def wsX0_mix : List Cond := .code yX0_mix cX0_mix 2 (some .int) :: ([.constant RX0 38 (-2048144789), .constant RX0 39 (-1028477387)])
def wsX3_areaOfDraw : List Cond := .code yX3_areaOfDraw cX3_areaOfDraw 5 (some .int) :: ([.fieldLink RX3 34 "DaySimulate$Town" "weightSum" "I", .methodLink RX3 37 Lib.Math.max.name, .static Lib.Math.max.name, .initialized "java/lang/Math", .code Lib.Math.max.name Lib.Math.max.code 2 (some .int), .fieldLink RX3 31 "DaySimulate$Town" "areas" "I", .fieldLink RX3 24 "DaySimulate$Town" "weight" "[I"] ++ wsX30)
def wsX0_draw : List Cond := .code yX0_draw cX0_draw 9 none :: ([.fieldLink RX0 24 "DaySimulate$Day" "calls" "I", .constant RX0 28 (1000003), .fieldLink RX0 9 "DaySimulate$Day" "minute" "[I", .fieldLink RX0 18 "DaySimulate$Day" "rank" "[I", .fieldLink RX0 21 "DaySimulate$Day" "lasts" "[I", .fieldLink RX0 15 "DaySimulate$Day" "area" "[I", .methodLink RX0 29 yX0_mix, .static yX0_mix, .initialized RX0, .code yX0_mix cX0_mix 2 (some .int), .constant RX0 38 (-2048144789), .constant RX0 39 (-1028477387), .methodLink RX0 33 yX3_areaOfDraw, .instanceMethod yX3_areaOfDraw, .selects RX3 yX3_areaOfDraw yX3_areaOfDraw, .initialized RX3, .code yX3_areaOfDraw cX3_areaOfDraw 5 (some .int), .fieldLink RX3 34 "DaySimulate$Town" "weightSum" "I", .methodLink RX3 37 Lib.Math.max.name, .static Lib.Math.max.name, .initialized "java/lang/Math", .code Lib.Math.max.name Lib.Math.max.code 2 (some .int), .fieldLink RX3 31 "DaySimulate$Town" "areas" "I", .fieldLink RX3 24 "DaySimulate$Town" "weight" "[I"] ++ wsX00 ++ wsX30)
def wsX1_init : List Cond := .code yX1_init cX1_init 1 none :: ([.methodLink RX1 3 objectInit, .instanceMethod objectInit, .code objectInit ⟨#[0xb1]⟩ 1 none, .classLink RX1 9 "[[I", .arrayClass .int, .fieldLink RX1 11 "DaySimulate$Fleet" "stationOf" "[[I", .fieldLink RX1 16 "DaySimulate$Fleet" "units" "I"] ++ wsX10)
def wsX1_addUnit : List Cond := .code yX1_addUnit cX1_addUnit 3 (some .int) :: ([.fieldLink RX1 11 "DaySimulate$Fleet" "stationOf" "[[I", .fieldLink RX1 16 "DaySimulate$Fleet" "units" "I"] ++ wsX10)
def wsX1_countOthers : List Cond := .code yX1_countOthers cX1_countOthers 6 (some .int) :: ([.fieldLink RX1 16 "DaySimulate$Fleet" "units" "I", .fieldLink RX1 11 "DaySimulate$Fleet" "stationOf" "[[I"] ++ wsX10)
def wsX1_hasRoomInAllVariants : List Cond := .code yX1_hasRoomInAllVariants cX1_hasRoomInAllVariants 3 (some .boolean) :: ([.methodLink RX1 20 yX1_countOthers, .instanceMethod yX1_countOthers, .selects RX1 yX1_countOthers yX1_countOthers, .initialized RX1, .code yX1_countOthers cX1_countOthers 6 (some .int), .fieldLink RX1 16 "DaySimulate$Fleet" "units" "I", .fieldLink RX1 11 "DaySimulate$Fleet" "stationOf" "[[I"] ++ wsX10)
def wsX2_init_r1 : List Cond := [Cond.methodLink RX2 3 objectInit, Cond.instanceMethod objectInit, Cond.code objectInit ⟨#[0xb1]⟩ 1 none, Cond.classLink RX2 9 RX0, Cond.instantiable RX0 5, Cond.initialized RX0, Cond.fieldLink RX2 12 "DaySimulate$Play" "day" "LDaySimulate$Day;", Cond.arrayClass .int, Cond.fieldLink RX2 18 "DaySimulate$Play" "unitOf" "[I", Cond.fieldLink RX2 22 "DaySimulate$Play" "wayOf" "[I", Cond.fieldLink RX2 25 "DaySimulate$Play" "arrival" "[I", Cond.fieldLink RX2 28 "DaySimulate$Play" "workOf" "[I", Cond.arrayClass .boolean, Cond.fieldLink RX2 31 "DaySimulate$Play" "leftOut" "[Z", Cond.classLink RX2 35 "[[I", Cond.fieldLink RX2 37 "DaySimulate$Play" "wayTo" "[[I", Cond.fieldLink RX2 40 "DaySimulate$Play" "backAt" "[I", Cond.fieldLink RX2 43 "DaySimulate$Play" "lateInHour" "[I", Cond.fieldLink RX2 46 "DaySimulate$Play" "units" "I", Cond.fieldLink RX2 50 "DaySimulate$Play" "missedMinutes" "I", Cond.instanceMethod yX0_init, Cond.code yX0_init cX0_init 1 none, Cond.methodLink RX0 3 objectInit, Cond.fieldLink RX0 9 "DaySimulate$Day" "minute" "[I"]
def wsX2_init_r2 : List Cond := [Cond.fieldLink RX0 15 "DaySimulate$Day" "area" "[I", Cond.fieldLink RX0 18 "DaySimulate$Day" "rank" "[I", Cond.fieldLink RX0 21 "DaySimulate$Day" "lasts" "[I", Cond.fieldLink RX0 24 "DaySimulate$Day" "calls" "I"]
def wsX2_init : List Cond := .code yX2_init cX2_init 1 none :: ((wsX2_init_r1 ++ wsX2_init_r2) ++ wsX00 ++ wsX20)
def wsX2_forget : List Cond := .code yX2_forget cX2_forget 2 none :: ([.fieldLink RX2 12 "DaySimulate$Play" "day" "LDaySimulate$Day;", .fieldLink RX2 53 "DaySimulate$Day" "calls" "I", .fieldLink RX2 50 "DaySimulate$Play" "missedMinutes" "I", .fieldLink RX2 28 "DaySimulate$Play" "workOf" "[I"] ++ wsX20 ++ wsX00)
def wsX3_wayMinutes : List Cond := .code yX3_wayMinutes cX3_wayMinutes 5 (some .int) :: ([.fieldLink RX3 9 "DaySimulate$Town" "stationX" "[I", .fieldLink RX3 18 "DaySimulate$Town" "areaX" "[I", .methodLink RX3 43 Lib.Math.abs.name, .static Lib.Math.abs.name, .initialized "java/lang/Math", .code Lib.Math.abs.name Lib.Math.abs.code 1 (some .int), .fieldLink RX3 15 "DaySimulate$Town" "stationY" "[I", .fieldLink RX3 21 "DaySimulate$Town" "areaY" "[I"] ++ wsX30)
def wsX2_post : List Cond := .code yX2_post cX2_post 6 none :: ([.fieldLink RX2 31 "DaySimulate$Play" "leftOut" "[Z", .fieldLink RX2 66 "DaySimulate$Town" "areas" "I", .fieldLink RX2 37 "DaySimulate$Play" "wayTo" "[[I", .methodLink RX2 71 yX3_wayMinutes, .instanceMethod yX3_wayMinutes, .selects RX3 yX3_wayMinutes yX3_wayMinutes, .initialized RX3, .code yX3_wayMinutes cX3_wayMinutes 5 (some .int), .fieldLink RX3 9 "DaySimulate$Town" "stationX" "[I", .fieldLink RX3 18 "DaySimulate$Town" "areaX" "[I", .methodLink RX3 43 Lib.Math.abs.name, .static Lib.Math.abs.name, .initialized "java/lang/Math", .code Lib.Math.abs.name Lib.Math.abs.code 1 (some .int), .fieldLink RX3 15 "DaySimulate$Town" "stationY" "[I", .fieldLink RX3 21 "DaySimulate$Town" "areaY" "[I"] ++ wsX20 ++ wsX30)
def wsX2_begin_r1 : List Cond := [Cond.fieldLink RX2 56 "DaySimulate$Fleet" "units" "I", Cond.fieldLink RX2 46 "DaySimulate$Play" "units" "I", Cond.fieldLink RX2 50 "DaySimulate$Play" "missedMinutes" "I", Cond.fieldLink RX2 40 "DaySimulate$Play" "backAt" "[I", Cond.fieldLink RX2 28 "DaySimulate$Play" "workOf" "[I", Cond.fieldLink RX2 59 "DaySimulate$Fleet" "stationOf" "[[I", Cond.fieldLink RX2 18 "DaySimulate$Play" "unitOf" "[I", Cond.methodLink RX2 62 yX2_post, Cond.instanceMethod yX2_post, Cond.selects RX2 yX2_post yX2_post, Cond.initialized RX2, Cond.code yX2_post cX2_post 6 none, Cond.fieldLink RX2 31 "DaySimulate$Play" "leftOut" "[Z", Cond.fieldLink RX2 66 "DaySimulate$Town" "areas" "I", Cond.fieldLink RX2 37 "DaySimulate$Play" "wayTo" "[[I", Cond.methodLink RX2 71 yX3_wayMinutes, Cond.instanceMethod yX3_wayMinutes, Cond.selects RX3 yX3_wayMinutes yX3_wayMinutes, Cond.initialized RX3, Cond.code yX3_wayMinutes cX3_wayMinutes 5 (some .int), Cond.fieldLink RX3 9 "DaySimulate$Town" "stationX" "[I", Cond.fieldLink RX3 18 "DaySimulate$Town" "areaX" "[I", Cond.methodLink RX3 43 Lib.Math.abs.name, Cond.static Lib.Math.abs.name]
def wsX2_begin_r2 : List Cond := [Cond.initialized "java/lang/Math", Cond.code Lib.Math.abs.name Lib.Math.abs.code 1 (some .int), Cond.fieldLink RX3 15 "DaySimulate$Town" "stationY" "[I", Cond.fieldLink RX3 21 "DaySimulate$Town" "areaY" "[I"]
def wsX2_begin : List Cond := .code yX2_begin cX2_begin 6 none :: ((wsX2_begin_r1 ++ wsX2_begin_r2) ++ wsX10 ++ wsX20 ++ wsX30)
def wsX2_goesAhead : List Cond := .code yX2_goesAhead cX2_goesAhead 3 (some .boolean) :: ([.fieldLink RX2 12 "DaySimulate$Play" "day" "LDaySimulate$Day;", .fieldLink RX2 120 "DaySimulate$Day" "rank" "[I", .fieldLink RX2 113 "DaySimulate$Day" "minute" "[I"] ++ wsX20 ++ wsX00)
def wsX2_firstWaiting : List Cond := .code yX2_firstWaiting cX2_firstWaiting 5 (some .int) :: ([.fieldLink RX2 12 "DaySimulate$Play" "day" "LDaySimulate$Day;", .fieldLink RX2 53 "DaySimulate$Day" "calls" "I", .fieldLink RX2 18 "DaySimulate$Play" "unitOf" "[I", .fieldLink RX2 113 "DaySimulate$Day" "minute" "[I", .methodLink RX2 116 yX2_goesAhead, .instanceMethod yX2_goesAhead, .selects RX2 yX2_goesAhead yX2_goesAhead, .initialized RX2, .code yX2_goesAhead cX2_goesAhead 3 (some .boolean), .fieldLink RX2 120 "DaySimulate$Day" "rank" "[I"] ++ wsX20 ++ wsX00)
def wsX2_isFree : List Cond := .code yX2_isFree cX2_isFree 3 (some .boolean) :: ([.fieldLink RX2 31 "DaySimulate$Play" "leftOut" "[Z", .fieldLink RX2 40 "DaySimulate$Play" "backAt" "[I"] ++ wsX20)
def wsX2_nearestFree : List Cond := .code yX2_nearestFree cX2_nearestFree 6 (some .int) :: ([.constant RX2 75 (2147483647), .fieldLink RX2 46 "DaySimulate$Play" "units" "I", .fieldLink RX2 37 "DaySimulate$Play" "wayTo" "[[I", .methodLink RX2 123 yX2_isFree, .instanceMethod yX2_isFree, .selects RX2 yX2_isFree yX2_isFree, .initialized RX2, .code yX2_isFree cX2_isFree 3 (some .boolean), .fieldLink RX2 31 "DaySimulate$Play" "leftOut" "[Z", .fieldLink RX2 40 "DaySimulate$Play" "backAt" "[I"] ++ wsX20)
def wsX2_send : List Cond := .code yX2_send cX2_send 5 none :: ([.fieldLink RX2 37 "DaySimulate$Play" "wayTo" "[[I", .fieldLink RX2 12 "DaySimulate$Play" "day" "LDaySimulate$Day;", .fieldLink RX2 100 "DaySimulate$Day" "area" "[I", .fieldLink RX2 18 "DaySimulate$Play" "unitOf" "[I", .fieldLink RX2 22 "DaySimulate$Play" "wayOf" "[I", .fieldLink RX2 25 "DaySimulate$Play" "arrival" "[I", .fieldLink RX2 40 "DaySimulate$Play" "backAt" "[I", .fieldLink RX2 110 "DaySimulate$Day" "lasts" "[I", .fieldLink RX2 28 "DaySimulate$Play" "workOf" "[I"] ++ wsX20 ++ wsX00)
def wsX2_sendUnits_r1 : List Cond := [Cond.fieldLink RX2 12 "DaySimulate$Play" "day" "LDaySimulate$Day;", Cond.fieldLink RX2 100 "DaySimulate$Day" "area" "[I", Cond.methodLink RX2 97 yX2_firstWaiting, Cond.instanceMethod yX2_firstWaiting, Cond.selects RX2 yX2_firstWaiting yX2_firstWaiting, Cond.initialized RX2, Cond.code yX2_firstWaiting cX2_firstWaiting 5 (some .int), Cond.fieldLink RX2 53 "DaySimulate$Day" "calls" "I", Cond.fieldLink RX2 18 "DaySimulate$Play" "unitOf" "[I", Cond.fieldLink RX2 113 "DaySimulate$Day" "minute" "[I", Cond.methodLink RX2 116 yX2_goesAhead, Cond.instanceMethod yX2_goesAhead, Cond.selects RX2 yX2_goesAhead yX2_goesAhead, Cond.code yX2_goesAhead cX2_goesAhead 3 (some .boolean), Cond.fieldLink RX2 120 "DaySimulate$Day" "rank" "[I", Cond.methodLink RX2 103 yX2_nearestFree, Cond.instanceMethod yX2_nearestFree, Cond.selects RX2 yX2_nearestFree yX2_nearestFree, Cond.code yX2_nearestFree cX2_nearestFree 6 (some .int), Cond.constant RX2 75 (2147483647), Cond.fieldLink RX2 46 "DaySimulate$Play" "units" "I", Cond.fieldLink RX2 37 "DaySimulate$Play" "wayTo" "[[I", Cond.methodLink RX2 123 yX2_isFree, Cond.instanceMethod yX2_isFree]
def wsX2_sendUnits_r2 : List Cond := [Cond.selects RX2 yX2_isFree yX2_isFree, Cond.code yX2_isFree cX2_isFree 3 (some .boolean), Cond.fieldLink RX2 31 "DaySimulate$Play" "leftOut" "[Z", Cond.fieldLink RX2 40 "DaySimulate$Play" "backAt" "[I", Cond.methodLink RX2 106 yX2_send, Cond.instanceMethod yX2_send, Cond.selects RX2 yX2_send yX2_send, Cond.code yX2_send cX2_send 5 none, Cond.fieldLink RX2 22 "DaySimulate$Play" "wayOf" "[I", Cond.fieldLink RX2 25 "DaySimulate$Play" "arrival" "[I", Cond.fieldLink RX2 110 "DaySimulate$Day" "lasts" "[I", Cond.fieldLink RX2 28 "DaySimulate$Play" "workOf" "[I"]
def wsX2_sendUnits : List Cond := .code yX2_sendUnits cX2_sendUnits 5 none :: ((wsX2_sendUnits_r1 ++ wsX2_sendUnits_r2) ++ wsX20 ++ wsX00)
def wsX2_nextEvent : List Cond := .code yX2_nextEvent cX2_nextEvent 4 (some .int) :: ([.constant RX2 75 (2147483647), .fieldLink RX2 12 "DaySimulate$Play" "day" "LDaySimulate$Day;", .fieldLink RX2 53 "DaySimulate$Day" "calls" "I", .fieldLink RX2 113 "DaySimulate$Day" "minute" "[I", .methodLink RX2 88 Lib.Math.min.name, .static Lib.Math.min.name, .initialized "java/lang/Math", .code Lib.Math.min.name Lib.Math.min.code 2 (some .int), .fieldLink RX2 46 "DaySimulate$Play" "units" "I", .fieldLink RX2 40 "DaySimulate$Play" "backAt" "[I"] ++ wsX20 ++ wsX00)
def wsX2_isAnyFree : List Cond := .code yX2_isAnyFree cX2_isAnyFree 3 (some .boolean) :: ([.fieldLink RX2 46 "DaySimulate$Play" "units" "I", .methodLink RX2 123 yX2_isFree, .instanceMethod yX2_isFree, .selects RX2 yX2_isFree yX2_isFree, .initialized RX2, .code yX2_isFree cX2_isFree 3 (some .boolean), .fieldLink RX2 31 "DaySimulate$Play" "leftOut" "[Z", .fieldLink RX2 40 "DaySimulate$Play" "backAt" "[I"] ++ wsX20)
def wsX2_playOut_r1 : List Cond := [Cond.constant RX2 75 (2147483647), Cond.fieldLink RX2 50 "DaySimulate$Play" "missedMinutes" "I", Cond.methodLink RX2 88 Lib.Math.min.name, Cond.static Lib.Math.min.name, Cond.initialized "java/lang/Math", Cond.code Lib.Math.min.name Lib.Math.min.code 2 (some .int), Cond.methodLink RX2 94 Lib.Math.max.name, Cond.static Lib.Math.max.name, Cond.code Lib.Math.max.name Lib.Math.max.code 2 (some .int), Cond.methodLink RX2 76 yX2_sendUnits, Cond.instanceMethod yX2_sendUnits, Cond.selects RX2 yX2_sendUnits yX2_sendUnits, Cond.initialized RX2, Cond.code yX2_sendUnits cX2_sendUnits 5 none, Cond.fieldLink RX2 12 "DaySimulate$Play" "day" "LDaySimulate$Day;", Cond.fieldLink RX2 100 "DaySimulate$Day" "area" "[I", Cond.methodLink RX2 97 yX2_firstWaiting, Cond.instanceMethod yX2_firstWaiting, Cond.selects RX2 yX2_firstWaiting yX2_firstWaiting, Cond.code yX2_firstWaiting cX2_firstWaiting 5 (some .int), Cond.fieldLink RX2 53 "DaySimulate$Day" "calls" "I", Cond.fieldLink RX2 18 "DaySimulate$Play" "unitOf" "[I", Cond.fieldLink RX2 113 "DaySimulate$Day" "minute" "[I", Cond.methodLink RX2 116 yX2_goesAhead]
def wsX2_playOut_r2 : List Cond := [Cond.instanceMethod yX2_goesAhead, Cond.selects RX2 yX2_goesAhead yX2_goesAhead, Cond.code yX2_goesAhead cX2_goesAhead 3 (some .boolean), Cond.fieldLink RX2 120 "DaySimulate$Day" "rank" "[I", Cond.methodLink RX2 103 yX2_nearestFree, Cond.instanceMethod yX2_nearestFree, Cond.selects RX2 yX2_nearestFree yX2_nearestFree, Cond.code yX2_nearestFree cX2_nearestFree 6 (some .int), Cond.fieldLink RX2 46 "DaySimulate$Play" "units" "I", Cond.fieldLink RX2 37 "DaySimulate$Play" "wayTo" "[[I", Cond.methodLink RX2 123 yX2_isFree, Cond.instanceMethod yX2_isFree, Cond.selects RX2 yX2_isFree yX2_isFree, Cond.code yX2_isFree cX2_isFree 3 (some .boolean), Cond.fieldLink RX2 31 "DaySimulate$Play" "leftOut" "[Z", Cond.fieldLink RX2 40 "DaySimulate$Play" "backAt" "[I", Cond.methodLink RX2 106 yX2_send, Cond.instanceMethod yX2_send, Cond.selects RX2 yX2_send yX2_send, Cond.code yX2_send cX2_send 5 none, Cond.fieldLink RX2 22 "DaySimulate$Play" "wayOf" "[I", Cond.fieldLink RX2 25 "DaySimulate$Play" "arrival" "[I", Cond.fieldLink RX2 110 "DaySimulate$Day" "lasts" "[I", Cond.fieldLink RX2 28 "DaySimulate$Play" "workOf" "[I"]
def wsX2_playOut_r3 : List Cond := [Cond.methodLink RX2 80 yX2_nextEvent, Cond.instanceMethod yX2_nextEvent, Cond.selects RX2 yX2_nextEvent yX2_nextEvent, Cond.code yX2_nextEvent cX2_nextEvent 4 (some .int), Cond.methodLink RX2 84 yX2_isAnyFree, Cond.instanceMethod yX2_isAnyFree, Cond.selects RX2 yX2_isAnyFree yX2_isAnyFree, Cond.code yX2_isAnyFree cX2_isAnyFree 3 (some .boolean)]
def wsX2_playOut : List Cond := .code yX2_playOut cX2_playOut 4 none :: ((wsX2_playOut_r1 ++ (wsX2_playOut_r2 ++ wsX2_playOut_r3)) ++ wsX20 ++ wsX00)
def wsX2_delay : List Cond := .code yX2_delay cX2_delay 2 (some .int) :: ([.fieldLink RX2 18 "DaySimulate$Play" "unitOf" "[I", .fieldLink RX2 25 "DaySimulate$Play" "arrival" "[I", .fieldLink RX2 12 "DaySimulate$Play" "day" "LDaySimulate$Day;", .fieldLink RX2 113 "DaySimulate$Day" "minute" "[I"] ++ wsX20 ++ wsX00)
def wsX2_isLate : List Cond := .code yX2_isLate cX2_isLate 3 (some .boolean) :: ([.fieldLink RX2 18 "DaySimulate$Play" "unitOf" "[I", .methodLink RX2 126 yX2_delay, .instanceMethod yX2_delay, .selects RX2 yX2_delay yX2_delay, .initialized RX2, .code yX2_delay cX2_delay 2 (some .int), .fieldLink RX2 25 "DaySimulate$Play" "arrival" "[I", .fieldLink RX2 12 "DaySimulate$Play" "day" "LDaySimulate$Day;", .fieldLink RX2 113 "DaySimulate$Day" "minute" "[I"] ++ wsX20 ++ wsX00)
def wsX2_whyLate : List Cond := .code yX2_whyLate cX2_whyLate 3 (some .int) :: ([.fieldLink RX2 18 "DaySimulate$Play" "unitOf" "[I", .fieldLink RX2 22 "DaySimulate$Play" "wayOf" "[I", .methodLink RX2 129 yX2_isLate, .instanceMethod yX2_isLate, .selects RX2 yX2_isLate yX2_isLate, .initialized RX2, .code yX2_isLate cX2_isLate 3 (some .boolean), .methodLink RX2 126 yX2_delay, .instanceMethod yX2_delay, .selects RX2 yX2_delay yX2_delay, .code yX2_delay cX2_delay 2 (some .int), .fieldLink RX2 25 "DaySimulate$Play" "arrival" "[I", .fieldLink RX2 12 "DaySimulate$Play" "day" "LDaySimulate$Day;", .fieldLink RX2 113 "DaySimulate$Day" "minute" "[I"] ++ wsX20 ++ wsX00)
def wsX2_countLate : List Cond := .code yX2_countLate cX2_countLate 4 (some .int) :: ([.fieldLink RX2 12 "DaySimulate$Play" "day" "LDaySimulate$Day;", .fieldLink RX2 53 "DaySimulate$Day" "calls" "I", .methodLink RX2 129 yX2_isLate, .instanceMethod yX2_isLate, .selects RX2 yX2_isLate yX2_isLate, .initialized RX2, .code yX2_isLate cX2_isLate 3 (some .boolean), .fieldLink RX2 18 "DaySimulate$Play" "unitOf" "[I", .methodLink RX2 126 yX2_delay, .instanceMethod yX2_delay, .selects RX2 yX2_delay yX2_delay, .code yX2_delay cX2_delay 2 (some .int), .fieldLink RX2 25 "DaySimulate$Play" "arrival" "[I", .fieldLink RX2 113 "DaySimulate$Day" "minute" "[I"] ++ wsX20 ++ wsX00)
def wsX2_countServed : List Cond := .code yX2_countServed cX2_countServed 3 (some .int) :: ([.fieldLink RX2 12 "DaySimulate$Play" "day" "LDaySimulate$Day;", .fieldLink RX2 53 "DaySimulate$Day" "calls" "I", .fieldLink RX2 18 "DaySimulate$Play" "unitOf" "[I"] ++ wsX20 ++ wsX00)
def wsX2_countArrivedBy : List Cond := .code yX2_countArrivedBy cX2_countArrivedBy 4 (some .int) :: ([.fieldLink RX2 12 "DaySimulate$Play" "day" "LDaySimulate$Day;", .fieldLink RX2 53 "DaySimulate$Day" "calls" "I", .fieldLink RX2 18 "DaySimulate$Play" "unitOf" "[I", .fieldLink RX2 25 "DaySimulate$Play" "arrival" "[I"] ++ wsX20 ++ wsX00)
def wsX2_sumOfDelays : List Cond := .code yX2_sumOfDelays cX2_sumOfDelays 4 (some .long) :: ([.fieldLink RX2 12 "DaySimulate$Play" "day" "LDaySimulate$Day;", .fieldLink RX2 53 "DaySimulate$Day" "calls" "I", .fieldLink RX2 18 "DaySimulate$Play" "unitOf" "[I", .methodLink RX2 126 yX2_delay, .instanceMethod yX2_delay, .selects RX2 yX2_delay yX2_delay, .initialized RX2, .code yX2_delay cX2_delay 2 (some .int), .fieldLink RX2 25 "DaySimulate$Play" "arrival" "[I", .fieldLink RX2 113 "DaySimulate$Day" "minute" "[I"] ++ wsX20 ++ wsX00)
def wsX2_hourOfMostLate : List Cond := .code yX2_hourOfMostLate cX2_hourOfMostLate 5 (some .int) :: ([.fieldLink RX2 43 "DaySimulate$Play" "lateInHour" "[I", .fieldLink RX2 12 "DaySimulate$Play" "day" "LDaySimulate$Day;", .fieldLink RX2 53 "DaySimulate$Day" "calls" "I", .fieldLink RX2 113 "DaySimulate$Day" "minute" "[I", .methodLink RX2 129 yX2_isLate, .instanceMethod yX2_isLate, .selects RX2 yX2_isLate yX2_isLate, .initialized RX2, .code yX2_isLate cX2_isLate 3 (some .boolean), .fieldLink RX2 18 "DaySimulate$Play" "unitOf" "[I", .methodLink RX2 126 yX2_delay, .instanceMethod yX2_delay, .selects RX2 yX2_delay yX2_delay, .code yX2_delay cX2_delay 2 (some .int), .fieldLink RX2 25 "DaySimulate$Play" "arrival" "[I"] ++ wsX20 ++ wsX00)
def wsX3_init : List Cond := .code yX3_init cX3_init 1 none :: ([.methodLink RX3 3 objectInit, .instanceMethod objectInit, .code objectInit ⟨#[0xb1]⟩ 1 none, .arrayClass .int, .fieldLink RX3 9 "DaySimulate$Town" "stationX" "[I", .fieldLink RX3 15 "DaySimulate$Town" "stationY" "[I", .fieldLink RX3 18 "DaySimulate$Town" "areaX" "[I", .fieldLink RX3 21 "DaySimulate$Town" "areaY" "[I", .fieldLink RX3 24 "DaySimulate$Town" "weight" "[I", .fieldLink RX3 27 "DaySimulate$Town" "stations" "I", .fieldLink RX3 31 "DaySimulate$Town" "areas" "I", .fieldLink RX3 34 "DaySimulate$Town" "weightSum" "I"] ++ wsX30)
def wsX3_addStation : List Cond := .code yX3_addStation cX3_addStation 3 (some .int) :: ([.fieldLink RX3 9 "DaySimulate$Town" "stationX" "[I", .fieldLink RX3 27 "DaySimulate$Town" "stations" "I", .fieldLink RX3 15 "DaySimulate$Town" "stationY" "[I"] ++ wsX30)
def wsX3_addArea : List Cond := .code yX3_addArea cX3_addArea 4 (some .int) :: ([.fieldLink RX3 18 "DaySimulate$Town" "areaX" "[I", .fieldLink RX3 31 "DaySimulate$Town" "areas" "I", .fieldLink RX3 21 "DaySimulate$Town" "areaY" "[I", .fieldLink RX3 24 "DaySimulate$Town" "weight" "[I", .fieldLink RX3 34 "DaySimulate$Town" "weightSum" "I"] ++ wsX30)
def wsX4_init_r1 : List Cond := [Cond.methodLink RX4 5 objectInit, Cond.instanceMethod objectInit, Cond.code objectInit ⟨#[0xb1]⟩ 1 none, Cond.classLink RX4 11 RX3, Cond.instantiable RX3 8, Cond.initialized RX3, Cond.fieldLink RX4 14 "DaySimulate" "town" "LDaySimulate$Town;", Cond.classLink RX4 18 RX1, Cond.instantiable RX1 2, Cond.initialized RX1, Cond.fieldLink RX4 21 "DaySimulate" "fleet" "LDaySimulate$Fleet;", Cond.classLink RX4 25 RX2, Cond.instantiable RX2 11, Cond.initialized RX2, Cond.fieldLink RX4 28 "DaySimulate" "play" "LDaySimulate$Play;", Cond.fieldLink RX4 32 "DaySimulate" "pace" "I", Cond.fieldLink RX4 36 "DaySimulate" "mark" "I", Cond.instanceMethod yX3_init, Cond.code yX3_init cX3_init 1 none, Cond.methodLink RX3 3 objectInit, Cond.arrayClass .int, Cond.fieldLink RX3 9 "DaySimulate$Town" "stationX" "[I", Cond.fieldLink RX3 15 "DaySimulate$Town" "stationY" "[I", Cond.fieldLink RX3 18 "DaySimulate$Town" "areaX" "[I"]
def wsX4_init_r2 : List Cond := [Cond.fieldLink RX3 21 "DaySimulate$Town" "areaY" "[I", Cond.fieldLink RX3 24 "DaySimulate$Town" "weight" "[I", Cond.fieldLink RX3 27 "DaySimulate$Town" "stations" "I", Cond.fieldLink RX3 31 "DaySimulate$Town" "areas" "I", Cond.fieldLink RX3 34 "DaySimulate$Town" "weightSum" "I", Cond.instanceMethod yX1_init, Cond.code yX1_init cX1_init 1 none, Cond.methodLink RX1 3 objectInit, Cond.classLink RX1 9 "[[I", Cond.fieldLink RX1 11 "DaySimulate$Fleet" "stationOf" "[[I", Cond.fieldLink RX1 16 "DaySimulate$Fleet" "units" "I", Cond.instanceMethod yX2_init, Cond.code yX2_init cX2_init 1 none, Cond.methodLink RX2 3 objectInit, Cond.classLink RX2 9 RX0, Cond.instantiable RX0 5, Cond.initialized RX0, Cond.fieldLink RX2 12 "DaySimulate$Play" "day" "LDaySimulate$Day;", Cond.fieldLink RX2 18 "DaySimulate$Play" "unitOf" "[I", Cond.fieldLink RX2 22 "DaySimulate$Play" "wayOf" "[I", Cond.fieldLink RX2 25 "DaySimulate$Play" "arrival" "[I", Cond.fieldLink RX2 28 "DaySimulate$Play" "workOf" "[I", Cond.arrayClass .boolean, Cond.fieldLink RX2 31 "DaySimulate$Play" "leftOut" "[Z"]
def wsX4_init_r3 : List Cond := [Cond.classLink RX2 35 "[[I", Cond.fieldLink RX2 37 "DaySimulate$Play" "wayTo" "[[I", Cond.fieldLink RX2 40 "DaySimulate$Play" "backAt" "[I", Cond.fieldLink RX2 43 "DaySimulate$Play" "lateInHour" "[I", Cond.fieldLink RX2 46 "DaySimulate$Play" "units" "I", Cond.fieldLink RX2 50 "DaySimulate$Play" "missedMinutes" "I", Cond.instanceMethod yX0_init, Cond.code yX0_init cX0_init 1 none, Cond.methodLink RX0 3 objectInit, Cond.fieldLink RX0 9 "DaySimulate$Day" "minute" "[I", Cond.fieldLink RX0 15 "DaySimulate$Day" "area" "[I", Cond.fieldLink RX0 18 "DaySimulate$Day" "rank" "[I", Cond.fieldLink RX0 21 "DaySimulate$Day" "lasts" "[I", Cond.fieldLink RX0 24 "DaySimulate$Day" "calls" "I"]
def wsX4_init : List Cond := .code yX4_init cX4_init 1 none :: ((wsX4_init_r1 ++ (wsX4_init_r2 ++ wsX4_init_r3)) ++ wsX30 ++ wsX40 ++ wsX10 ++ wsX20 ++ wsX00)
def wsX4_isBelow : List Cond := .code yX4_isBelow cX4_isBelow 2 (some .boolean) :: ([])
def wsX4_isPlace : List Cond := .code yX4_isPlace cX4_isPlace 2 (some .boolean) :: ([.methodLink RX4 68 yX4_isBelow, .static yX4_isBelow, .initialized RX4, .code yX4_isBelow cX4_isBelow 2 (some .boolean)])
def wsX4_needRange : List Cond := .code yX4_needRange cX4_needRange 1 none :: ([.classLink RX4 197 "java/lang/IndexOutOfBoundsException", .initialized "java/lang/IndexOutOfBoundsException"] ++ (vx_atS RX4 201 "java/lang/IndexOutOfBoundsException" ["java/lang/RuntimeException", "java/lang/Exception"]).filter goodWord)
def wsX4_needRoom : List Cond := .code yX4_needRoom cX4_needRoom 1 none :: ([.classLink RX4 207 "java/lang/UnsupportedOperationException", .initialized "java/lang/UnsupportedOperationException"] ++ (vx_atS RX4 211 "java/lang/UnsupportedOperationException" ["java/lang/RuntimeException", "java/lang/Exception"]).filter goodWord)
def wsX4_station_r1 : List Cond := [Cond.fieldLink RX4 14 "DaySimulate" "town" "LDaySimulate$Town;", Cond.fieldLink RX4 47 "DaySimulate$Town" "stations" "I", Cond.methodLink RX4 39 yX4_isPlace, Cond.static yX4_isPlace, Cond.initialized RX4, Cond.code yX4_isPlace cX4_isPlace 2 (some .boolean), Cond.methodLink RX4 68 yX4_isBelow, Cond.static yX4_isBelow, Cond.code yX4_isBelow cX4_isBelow 2 (some .boolean), Cond.methodLink RX4 43 yX4_needRange, Cond.static yX4_needRange, Cond.code yX4_needRange cX4_needRange 1 none, Cond.classLink RX4 197 "java/lang/IndexOutOfBoundsException", Cond.initialized "java/lang/IndexOutOfBoundsException", Cond.methodLink RX4 50 yX4_needRoom, Cond.static yX4_needRoom, Cond.code yX4_needRoom cX4_needRoom 1 none, Cond.classLink RX4 207 "java/lang/UnsupportedOperationException", Cond.initialized "java/lang/UnsupportedOperationException", Cond.methodLink RX4 53 yX3_addStation, Cond.instanceMethod yX3_addStation, Cond.selects RX3 yX3_addStation yX3_addStation, Cond.initialized RX3, Cond.code yX3_addStation cX3_addStation 3 (some .int)]
def wsX4_station_r2 : List Cond := [Cond.fieldLink RX3 9 "DaySimulate$Town" "stationX" "[I", Cond.fieldLink RX3 27 "DaySimulate$Town" "stations" "I", Cond.fieldLink RX3 15 "DaySimulate$Town" "stationY" "[I"]
def wsX4_station : List Cond := .code yX4_station cX4_station 3 (some .int) :: ((wsX4_station_r1 ++ wsX4_station_r2) ++ wsX40 ++ wsX30 ++ (vx_atS RX4 201 "java/lang/IndexOutOfBoundsException" ["java/lang/RuntimeException", "java/lang/Exception"]).filter goodWord ++ (vx_atS RX4 211 "java/lang/UnsupportedOperationException" ["java/lang/RuntimeException", "java/lang/Exception"]).filter goodWord)
def wsX4_isWithin : List Cond := .code yX4_isWithin cX4_isWithin 3 (some .boolean) :: ([])
def wsX4_area_r1 : List Cond := [Cond.fieldLink RX4 14 "DaySimulate" "town" "LDaySimulate$Town;", Cond.fieldLink RX4 61 "DaySimulate$Town" "areas" "I", Cond.methodLink RX4 39 yX4_isPlace, Cond.static yX4_isPlace, Cond.initialized RX4, Cond.code yX4_isPlace cX4_isPlace 2 (some .boolean), Cond.methodLink RX4 68 yX4_isBelow, Cond.static yX4_isBelow, Cond.code yX4_isBelow cX4_isBelow 2 (some .boolean), Cond.methodLink RX4 57 yX4_isWithin, Cond.static yX4_isWithin, Cond.code yX4_isWithin cX4_isWithin 3 (some .boolean), Cond.methodLink RX4 43 yX4_needRange, Cond.static yX4_needRange, Cond.code yX4_needRange cX4_needRange 1 none, Cond.classLink RX4 197 "java/lang/IndexOutOfBoundsException", Cond.initialized "java/lang/IndexOutOfBoundsException", Cond.methodLink RX4 50 yX4_needRoom, Cond.static yX4_needRoom, Cond.code yX4_needRoom cX4_needRoom 1 none, Cond.classLink RX4 207 "java/lang/UnsupportedOperationException", Cond.initialized "java/lang/UnsupportedOperationException", Cond.methodLink RX4 64 yX3_addArea, Cond.instanceMethod yX3_addArea]
def wsX4_area_r2 : List Cond := [Cond.selects RX3 yX3_addArea yX3_addArea, Cond.initialized RX3, Cond.code yX3_addArea cX3_addArea 4 (some .int), Cond.fieldLink RX3 18 "DaySimulate$Town" "areaX" "[I", Cond.fieldLink RX3 31 "DaySimulate$Town" "areas" "I", Cond.fieldLink RX3 21 "DaySimulate$Town" "areaY" "[I", Cond.fieldLink RX3 24 "DaySimulate$Town" "weight" "[I", Cond.fieldLink RX3 34 "DaySimulate$Town" "weightSum" "I"]
def wsX4_area : List Cond := .code yX4_area cX4_area 4 (some .int) :: ((wsX4_area_r1 ++ wsX4_area_r2) ++ wsX40 ++ wsX30 ++ (vx_atS RX4 201 "java/lang/IndexOutOfBoundsException" ["java/lang/RuntimeException", "java/lang/Exception"]).filter goodWord ++ (vx_atS RX4 211 "java/lang/UnsupportedOperationException" ["java/lang/RuntimeException", "java/lang/Exception"]).filter goodWord)
def wsX4_needKnown : List Cond := .code yX4_needKnown cX4_needKnown 1 none :: ([.classLink RX4 127 "java/lang/IllegalArgumentException", .initialized "java/lang/IllegalArgumentException"] ++ (vx_atS RX4 131 "java/lang/IllegalArgumentException" ["java/lang/RuntimeException", "java/lang/Exception"]).filter goodWord)
def wsX4_needState : List Cond := .code yX4_needState cX4_needState 1 none :: ([.classLink RX4 202 "java/lang/IllegalStateException", .initialized "java/lang/IllegalStateException"] ++ (vx_atS RX4 206 "java/lang/IllegalStateException" ["java/lang/RuntimeException", "java/lang/Exception"]).filter goodWord)
def wsX4_unit_r1 : List Cond := [Cond.fieldLink RX4 14 "DaySimulate" "town" "LDaySimulate$Town;", Cond.fieldLink RX4 47 "DaySimulate$Town" "stations" "I", Cond.fieldLink RX4 21 "DaySimulate" "fleet" "LDaySimulate$Fleet;", Cond.fieldLink RX4 81 "DaySimulate$Fleet" "units" "I", Cond.methodLink RX4 68 yX4_isBelow, Cond.static yX4_isBelow, Cond.initialized RX4, Cond.code yX4_isBelow cX4_isBelow 2 (some .boolean), Cond.methodLink RX4 71 yX4_needKnown, Cond.static yX4_needKnown, Cond.code yX4_needKnown cX4_needKnown 1 none, Cond.classLink RX4 127 "java/lang/IllegalArgumentException", Cond.initialized "java/lang/IllegalArgumentException", Cond.methodLink RX4 74 yX1_hasRoomInAllVariants, Cond.instanceMethod yX1_hasRoomInAllVariants, Cond.selects RX1 yX1_hasRoomInAllVariants yX1_hasRoomInAllVariants, Cond.initialized RX1, Cond.code yX1_hasRoomInAllVariants cX1_hasRoomInAllVariants 3 (some .boolean), Cond.methodLink RX1 20 yX1_countOthers, Cond.instanceMethod yX1_countOthers, Cond.selects RX1 yX1_countOthers yX1_countOthers, Cond.code yX1_countOthers cX1_countOthers 6 (some .int), Cond.fieldLink RX1 16 "DaySimulate$Fleet" "units" "I", Cond.fieldLink RX1 11 "DaySimulate$Fleet" "stationOf" "[[I"]
def wsX4_unit_r2 : List Cond := [Cond.methodLink RX4 78 yX4_needState, Cond.static yX4_needState, Cond.code yX4_needState cX4_needState 1 none, Cond.classLink RX4 202 "java/lang/IllegalStateException", Cond.initialized "java/lang/IllegalStateException", Cond.methodLink RX4 50 yX4_needRoom, Cond.static yX4_needRoom, Cond.code yX4_needRoom cX4_needRoom 1 none, Cond.classLink RX4 207 "java/lang/UnsupportedOperationException", Cond.initialized "java/lang/UnsupportedOperationException", Cond.methodLink RX4 84 yX1_addUnit, Cond.instanceMethod yX1_addUnit, Cond.selects RX1 yX1_addUnit yX1_addUnit, Cond.code yX1_addUnit cX1_addUnit 3 (some .int)]
def wsX4_unit : List Cond := .code yX4_unit cX4_unit 2 (some .int) :: ((wsX4_unit_r1 ++ wsX4_unit_r2) ++ wsX40 ++ wsX30 ++ wsX10 ++ (vx_atS RX4 131 "java/lang/IllegalArgumentException" ["java/lang/RuntimeException", "java/lang/Exception"]).filter goodWord ++ (vx_atS RX4 206 "java/lang/IllegalStateException" ["java/lang/RuntimeException", "java/lang/Exception"]).filter goodWord ++ (vx_atS RX4 211 "java/lang/UnsupportedOperationException" ["java/lang/RuntimeException", "java/lang/Exception"]).filter goodWord)
def wsX4_change_r1 : List Cond := [Cond.fieldLink RX4 21 "DaySimulate" "fleet" "LDaySimulate$Fleet;", Cond.fieldLink RX4 81 "DaySimulate$Fleet" "units" "I", Cond.fieldLink RX4 14 "DaySimulate" "town" "LDaySimulate$Town;", Cond.fieldLink RX4 47 "DaySimulate$Town" "stations" "I", Cond.fieldLink RX4 91 "DaySimulate$Fleet" "stationOf" "[[I", Cond.methodLink RX4 57 yX4_isWithin, Cond.static yX4_isWithin, Cond.initialized RX4, Cond.code yX4_isWithin cX4_isWithin 3 (some .boolean), Cond.methodLink RX4 68 yX4_isBelow, Cond.static yX4_isBelow, Cond.code yX4_isBelow cX4_isBelow 2 (some .boolean), Cond.methodLink RX4 71 yX4_needKnown, Cond.static yX4_needKnown, Cond.code yX4_needKnown cX4_needKnown 1 none, Cond.classLink RX4 127 "java/lang/IllegalArgumentException", Cond.initialized "java/lang/IllegalArgumentException", Cond.methodLink RX4 88 yX1_countOthers, Cond.instanceMethod yX1_countOthers, Cond.selects RX1 yX1_countOthers yX1_countOthers, Cond.initialized RX1, Cond.code yX1_countOthers cX1_countOthers 6 (some .int), Cond.fieldLink RX1 16 "DaySimulate$Fleet" "units" "I", Cond.fieldLink RX1 11 "DaySimulate$Fleet" "stationOf" "[[I"]
def wsX4_change_r2 : List Cond := [Cond.methodLink RX4 78 yX4_needState, Cond.static yX4_needState, Cond.code yX4_needState cX4_needState 1 none, Cond.classLink RX4 202 "java/lang/IllegalStateException", Cond.initialized "java/lang/IllegalStateException"]
def wsX4_change : List Cond := .code yX4_change cX4_change 4 none :: ((wsX4_change_r1 ++ wsX4_change_r2) ++ wsX40 ++ wsX10 ++ wsX30 ++ (vx_atS RX4 131 "java/lang/IllegalArgumentException" ["java/lang/RuntimeException", "java/lang/Exception"]).filter goodWord ++ (vx_atS RX4 206 "java/lang/IllegalStateException" ["java/lang/RuntimeException", "java/lang/Exception"]).filter goodWord)
def wsX4_rules : List Cond := .code yX4_rules cX4_rules 3 none :: ([.fieldLink RX4 32 "DaySimulate" "pace" "I", .fieldLink RX4 36 "DaySimulate" "mark" "I", .methodLink RX4 57 yX4_isWithin, .static yX4_isWithin, .initialized RX4, .code yX4_isWithin cX4_isWithin 3 (some .boolean), .methodLink RX4 43 yX4_needRange, .static yX4_needRange, .code yX4_needRange cX4_needRange 1 none, .classLink RX4 197 "java/lang/IndexOutOfBoundsException", .initialized "java/lang/IndexOutOfBoundsException"] ++ wsX40 ++ (vx_atS RX4 201 "java/lang/IndexOutOfBoundsException" ["java/lang/RuntimeException", "java/lang/Exception"]).filter goodWord)
def wsX4_lateOn_r1 : List Cond := [Cond.fieldLink RX4 28 "DaySimulate" "play" "LDaySimulate$Play;", Cond.fieldLink RX4 99 "DaySimulate$Play" "day" "LDaySimulate$Day;", Cond.fieldLink RX4 14 "DaySimulate" "town" "LDaySimulate$Town;", Cond.fieldLink RX4 21 "DaySimulate" "fleet" "LDaySimulate$Fleet;", Cond.fieldLink RX4 32 "DaySimulate" "pace" "I", Cond.fieldLink RX4 36 "DaySimulate" "mark" "I", Cond.methodLink RX4 176 yX0_draw, Cond.instanceMethod yX0_draw, Cond.selects RX0 yX0_draw yX0_draw, Cond.initialized RX0, Cond.code yX0_draw cX0_draw 9 none, Cond.fieldLink RX0 24 "DaySimulate$Day" "calls" "I", Cond.constant RX0 28 (1000003), Cond.fieldLink RX0 9 "DaySimulate$Day" "minute" "[I", Cond.fieldLink RX0 18 "DaySimulate$Day" "rank" "[I", Cond.fieldLink RX0 21 "DaySimulate$Day" "lasts" "[I", Cond.fieldLink RX0 15 "DaySimulate$Day" "area" "[I", Cond.methodLink RX0 29 yX0_mix, Cond.static yX0_mix, Cond.code yX0_mix cX0_mix 2 (some .int), Cond.constant RX0 38 (-2048144789), Cond.constant RX0 39 (-1028477387), Cond.methodLink RX0 33 yX3_areaOfDraw, Cond.instanceMethod yX3_areaOfDraw]
def wsX4_lateOn_r2 : List Cond := [Cond.selects RX3 yX3_areaOfDraw yX3_areaOfDraw, Cond.initialized RX3, Cond.code yX3_areaOfDraw cX3_areaOfDraw 5 (some .int), Cond.fieldLink RX3 34 "DaySimulate$Town" "weightSum" "I", Cond.methodLink RX3 37 Lib.Math.max.name, Cond.static Lib.Math.max.name, Cond.initialized "java/lang/Math", Cond.code Lib.Math.max.name Lib.Math.max.code 2 (some .int), Cond.fieldLink RX3 31 "DaySimulate$Town" "areas" "I", Cond.fieldLink RX3 24 "DaySimulate$Town" "weight" "[I", Cond.methodLink RX4 180 yX2_begin, Cond.instanceMethod yX2_begin, Cond.selects RX2 yX2_begin yX2_begin, Cond.initialized RX2, Cond.code yX2_begin cX2_begin 6 none, Cond.fieldLink RX2 56 "DaySimulate$Fleet" "units" "I", Cond.fieldLink RX2 46 "DaySimulate$Play" "units" "I", Cond.fieldLink RX2 50 "DaySimulate$Play" "missedMinutes" "I", Cond.fieldLink RX2 40 "DaySimulate$Play" "backAt" "[I", Cond.fieldLink RX2 28 "DaySimulate$Play" "workOf" "[I", Cond.fieldLink RX2 59 "DaySimulate$Fleet" "stationOf" "[[I", Cond.fieldLink RX2 18 "DaySimulate$Play" "unitOf" "[I", Cond.methodLink RX2 62 yX2_post, Cond.instanceMethod yX2_post]
def wsX4_lateOn_r3 : List Cond := [Cond.selects RX2 yX2_post yX2_post, Cond.code yX2_post cX2_post 6 none, Cond.fieldLink RX2 31 "DaySimulate$Play" "leftOut" "[Z", Cond.fieldLink RX2 66 "DaySimulate$Town" "areas" "I", Cond.fieldLink RX2 37 "DaySimulate$Play" "wayTo" "[[I", Cond.methodLink RX2 71 yX3_wayMinutes, Cond.instanceMethod yX3_wayMinutes, Cond.selects RX3 yX3_wayMinutes yX3_wayMinutes, Cond.code yX3_wayMinutes cX3_wayMinutes 5 (some .int), Cond.fieldLink RX3 9 "DaySimulate$Town" "stationX" "[I", Cond.fieldLink RX3 18 "DaySimulate$Town" "areaX" "[I", Cond.methodLink RX3 43 Lib.Math.abs.name, Cond.static Lib.Math.abs.name, Cond.code Lib.Math.abs.name Lib.Math.abs.code 1 (some .int), Cond.fieldLink RX3 15 "DaySimulate$Town" "stationY" "[I", Cond.fieldLink RX3 21 "DaySimulate$Town" "areaY" "[I", Cond.methodLink RX4 184 yX2_playOut, Cond.instanceMethod yX2_playOut, Cond.selects RX2 yX2_playOut yX2_playOut, Cond.code yX2_playOut cX2_playOut 4 none, Cond.constant RX2 75 (2147483647), Cond.methodLink RX2 88 Lib.Math.min.name, Cond.static Lib.Math.min.name, Cond.code Lib.Math.min.name Lib.Math.min.code 2 (some .int)]
def wsX4_lateOn_r4 : List Cond := [Cond.methodLink RX2 94 Lib.Math.max.name, Cond.methodLink RX2 76 yX2_sendUnits, Cond.instanceMethod yX2_sendUnits, Cond.selects RX2 yX2_sendUnits yX2_sendUnits, Cond.code yX2_sendUnits cX2_sendUnits 5 none, Cond.fieldLink RX2 12 "DaySimulate$Play" "day" "LDaySimulate$Day;", Cond.fieldLink RX2 100 "DaySimulate$Day" "area" "[I", Cond.methodLink RX2 97 yX2_firstWaiting, Cond.instanceMethod yX2_firstWaiting, Cond.selects RX2 yX2_firstWaiting yX2_firstWaiting, Cond.code yX2_firstWaiting cX2_firstWaiting 5 (some .int), Cond.fieldLink RX2 53 "DaySimulate$Day" "calls" "I", Cond.fieldLink RX2 113 "DaySimulate$Day" "minute" "[I", Cond.methodLink RX2 116 yX2_goesAhead, Cond.instanceMethod yX2_goesAhead, Cond.selects RX2 yX2_goesAhead yX2_goesAhead, Cond.code yX2_goesAhead cX2_goesAhead 3 (some .boolean), Cond.fieldLink RX2 120 "DaySimulate$Day" "rank" "[I", Cond.methodLink RX2 103 yX2_nearestFree, Cond.instanceMethod yX2_nearestFree, Cond.selects RX2 yX2_nearestFree yX2_nearestFree, Cond.code yX2_nearestFree cX2_nearestFree 6 (some .int), Cond.methodLink RX2 123 yX2_isFree, Cond.instanceMethod yX2_isFree]
def wsX4_lateOn_r5 : List Cond := [Cond.selects RX2 yX2_isFree yX2_isFree, Cond.code yX2_isFree cX2_isFree 3 (some .boolean), Cond.methodLink RX2 106 yX2_send, Cond.instanceMethod yX2_send, Cond.selects RX2 yX2_send yX2_send, Cond.code yX2_send cX2_send 5 none, Cond.fieldLink RX2 22 "DaySimulate$Play" "wayOf" "[I", Cond.fieldLink RX2 25 "DaySimulate$Play" "arrival" "[I", Cond.fieldLink RX2 110 "DaySimulate$Day" "lasts" "[I", Cond.methodLink RX2 80 yX2_nextEvent, Cond.instanceMethod yX2_nextEvent, Cond.selects RX2 yX2_nextEvent yX2_nextEvent, Cond.code yX2_nextEvent cX2_nextEvent 4 (some .int), Cond.methodLink RX2 84 yX2_isAnyFree, Cond.instanceMethod yX2_isAnyFree, Cond.selects RX2 yX2_isAnyFree yX2_isAnyFree, Cond.code yX2_isAnyFree cX2_isAnyFree 3 (some .boolean), Cond.methodLink RX4 139 yX2_countLate, Cond.instanceMethod yX2_countLate, Cond.selects RX2 yX2_countLate yX2_countLate, Cond.code yX2_countLate cX2_countLate 4 (some .int), Cond.methodLink RX2 129 yX2_isLate, Cond.instanceMethod yX2_isLate, Cond.selects RX2 yX2_isLate yX2_isLate]
def wsX4_lateOn_r6 : List Cond := [Cond.code yX2_isLate cX2_isLate 3 (some .boolean), Cond.methodLink RX2 126 yX2_delay, Cond.instanceMethod yX2_delay, Cond.selects RX2 yX2_delay yX2_delay, Cond.code yX2_delay cX2_delay 2 (some .int)]
def wsX4_lateOn : List Cond := .code yX4_lateOn cX4_lateOn 5 (some .int) :: ((wsX4_lateOn_r1 ++ (wsX4_lateOn_r2 ++ (wsX4_lateOn_r3 ++ (wsX4_lateOn_r4 ++ (wsX4_lateOn_r5 ++ wsX4_lateOn_r6))))) ++ wsX40 ++ wsX20 ++ wsX00 ++ wsX30 ++ wsX10)
def wsX4_run_r1 : List Cond := [Cond.fieldLink RX4 14 "DaySimulate" "town" "LDaySimulate$Town;", Cond.fieldLink RX4 61 "DaySimulate$Town" "areas" "I", Cond.methodLink RX4 68 yX4_isBelow, Cond.static yX4_isBelow, Cond.initialized RX4, Cond.code yX4_isBelow cX4_isBelow 2 (some .boolean), Cond.methodLink RX4 71 yX4_needKnown, Cond.static yX4_needKnown, Cond.code yX4_needKnown cX4_needKnown 1 none, Cond.classLink RX4 127 "java/lang/IllegalArgumentException", Cond.initialized "java/lang/IllegalArgumentException", Cond.methodLink RX4 57 yX4_isWithin, Cond.static yX4_isWithin, Cond.code yX4_isWithin cX4_isWithin 3 (some .boolean), Cond.methodLink RX4 43 yX4_needRange, Cond.static yX4_needRange, Cond.code yX4_needRange cX4_needRange 1 none, Cond.classLink RX4 197 "java/lang/IndexOutOfBoundsException", Cond.initialized "java/lang/IndexOutOfBoundsException", Cond.methodLink RX4 78 yX4_needState, Cond.static yX4_needState, Cond.code yX4_needState cX4_needState 1 none, Cond.classLink RX4 202 "java/lang/IllegalStateException", Cond.initialized "java/lang/IllegalStateException"]
def wsX4_run_r2 : List Cond := [Cond.methodLink RX4 95 yX4_lateOn, Cond.instanceMethod yX4_lateOn, Cond.selects RX4 yX4_lateOn yX4_lateOn, Cond.code yX4_lateOn cX4_lateOn 5 (some .int), Cond.fieldLink RX4 28 "DaySimulate" "play" "LDaySimulate$Play;", Cond.fieldLink RX4 99 "DaySimulate$Play" "day" "LDaySimulate$Day;", Cond.fieldLink RX4 21 "DaySimulate" "fleet" "LDaySimulate$Fleet;", Cond.fieldLink RX4 32 "DaySimulate" "pace" "I", Cond.fieldLink RX4 36 "DaySimulate" "mark" "I", Cond.methodLink RX4 176 yX0_draw, Cond.instanceMethod yX0_draw, Cond.selects RX0 yX0_draw yX0_draw, Cond.initialized RX0, Cond.code yX0_draw cX0_draw 9 none, Cond.fieldLink RX0 24 "DaySimulate$Day" "calls" "I", Cond.constant RX0 28 (1000003), Cond.fieldLink RX0 9 "DaySimulate$Day" "minute" "[I", Cond.fieldLink RX0 18 "DaySimulate$Day" "rank" "[I", Cond.fieldLink RX0 21 "DaySimulate$Day" "lasts" "[I", Cond.fieldLink RX0 15 "DaySimulate$Day" "area" "[I", Cond.methodLink RX0 29 yX0_mix, Cond.static yX0_mix, Cond.code yX0_mix cX0_mix 2 (some .int), Cond.constant RX0 38 (-2048144789)]
def wsX4_run_r3 : List Cond := [Cond.constant RX0 39 (-1028477387), Cond.methodLink RX0 33 yX3_areaOfDraw, Cond.instanceMethod yX3_areaOfDraw, Cond.selects RX3 yX3_areaOfDraw yX3_areaOfDraw, Cond.initialized RX3, Cond.code yX3_areaOfDraw cX3_areaOfDraw 5 (some .int), Cond.fieldLink RX3 34 "DaySimulate$Town" "weightSum" "I", Cond.methodLink RX3 37 Lib.Math.max.name, Cond.static Lib.Math.max.name, Cond.initialized "java/lang/Math", Cond.code Lib.Math.max.name Lib.Math.max.code 2 (some .int), Cond.fieldLink RX3 31 "DaySimulate$Town" "areas" "I", Cond.fieldLink RX3 24 "DaySimulate$Town" "weight" "[I", Cond.methodLink RX4 180 yX2_begin, Cond.instanceMethod yX2_begin, Cond.selects RX2 yX2_begin yX2_begin, Cond.initialized RX2, Cond.code yX2_begin cX2_begin 6 none, Cond.fieldLink RX2 56 "DaySimulate$Fleet" "units" "I", Cond.fieldLink RX2 46 "DaySimulate$Play" "units" "I", Cond.fieldLink RX2 50 "DaySimulate$Play" "missedMinutes" "I", Cond.fieldLink RX2 40 "DaySimulate$Play" "backAt" "[I", Cond.fieldLink RX2 28 "DaySimulate$Play" "workOf" "[I", Cond.fieldLink RX2 59 "DaySimulate$Fleet" "stationOf" "[[I"]
def wsX4_run_r4 : List Cond := [Cond.fieldLink RX2 18 "DaySimulate$Play" "unitOf" "[I", Cond.methodLink RX2 62 yX2_post, Cond.instanceMethod yX2_post, Cond.selects RX2 yX2_post yX2_post, Cond.code yX2_post cX2_post 6 none, Cond.fieldLink RX2 31 "DaySimulate$Play" "leftOut" "[Z", Cond.fieldLink RX2 66 "DaySimulate$Town" "areas" "I", Cond.fieldLink RX2 37 "DaySimulate$Play" "wayTo" "[[I", Cond.methodLink RX2 71 yX3_wayMinutes, Cond.instanceMethod yX3_wayMinutes, Cond.selects RX3 yX3_wayMinutes yX3_wayMinutes, Cond.code yX3_wayMinutes cX3_wayMinutes 5 (some .int), Cond.fieldLink RX3 9 "DaySimulate$Town" "stationX" "[I", Cond.fieldLink RX3 18 "DaySimulate$Town" "areaX" "[I", Cond.methodLink RX3 43 Lib.Math.abs.name, Cond.static Lib.Math.abs.name, Cond.code Lib.Math.abs.name Lib.Math.abs.code 1 (some .int), Cond.fieldLink RX3 15 "DaySimulate$Town" "stationY" "[I", Cond.fieldLink RX3 21 "DaySimulate$Town" "areaY" "[I", Cond.methodLink RX4 184 yX2_playOut, Cond.instanceMethod yX2_playOut, Cond.selects RX2 yX2_playOut yX2_playOut, Cond.code yX2_playOut cX2_playOut 4 none, Cond.constant RX2 75 (2147483647)]
def wsX4_run_r5 : List Cond := [Cond.methodLink RX2 88 Lib.Math.min.name, Cond.static Lib.Math.min.name, Cond.code Lib.Math.min.name Lib.Math.min.code 2 (some .int), Cond.methodLink RX2 94 Lib.Math.max.name, Cond.methodLink RX2 76 yX2_sendUnits, Cond.instanceMethod yX2_sendUnits, Cond.selects RX2 yX2_sendUnits yX2_sendUnits, Cond.code yX2_sendUnits cX2_sendUnits 5 none, Cond.fieldLink RX2 12 "DaySimulate$Play" "day" "LDaySimulate$Day;", Cond.fieldLink RX2 100 "DaySimulate$Day" "area" "[I", Cond.methodLink RX2 97 yX2_firstWaiting, Cond.instanceMethod yX2_firstWaiting, Cond.selects RX2 yX2_firstWaiting yX2_firstWaiting, Cond.code yX2_firstWaiting cX2_firstWaiting 5 (some .int), Cond.fieldLink RX2 53 "DaySimulate$Day" "calls" "I", Cond.fieldLink RX2 113 "DaySimulate$Day" "minute" "[I", Cond.methodLink RX2 116 yX2_goesAhead, Cond.instanceMethod yX2_goesAhead, Cond.selects RX2 yX2_goesAhead yX2_goesAhead, Cond.code yX2_goesAhead cX2_goesAhead 3 (some .boolean), Cond.fieldLink RX2 120 "DaySimulate$Day" "rank" "[I", Cond.methodLink RX2 103 yX2_nearestFree, Cond.instanceMethod yX2_nearestFree, Cond.selects RX2 yX2_nearestFree yX2_nearestFree]
def wsX4_run_r6 : List Cond := [Cond.code yX2_nearestFree cX2_nearestFree 6 (some .int), Cond.methodLink RX2 123 yX2_isFree, Cond.instanceMethod yX2_isFree, Cond.selects RX2 yX2_isFree yX2_isFree, Cond.code yX2_isFree cX2_isFree 3 (some .boolean), Cond.methodLink RX2 106 yX2_send, Cond.instanceMethod yX2_send, Cond.selects RX2 yX2_send yX2_send, Cond.code yX2_send cX2_send 5 none, Cond.fieldLink RX2 22 "DaySimulate$Play" "wayOf" "[I", Cond.fieldLink RX2 25 "DaySimulate$Play" "arrival" "[I", Cond.fieldLink RX2 110 "DaySimulate$Day" "lasts" "[I", Cond.methodLink RX2 80 yX2_nextEvent, Cond.instanceMethod yX2_nextEvent, Cond.selects RX2 yX2_nextEvent yX2_nextEvent, Cond.code yX2_nextEvent cX2_nextEvent 4 (some .int), Cond.methodLink RX2 84 yX2_isAnyFree, Cond.instanceMethod yX2_isAnyFree, Cond.selects RX2 yX2_isAnyFree yX2_isAnyFree, Cond.code yX2_isAnyFree cX2_isAnyFree 3 (some .boolean), Cond.methodLink RX4 139 yX2_countLate, Cond.instanceMethod yX2_countLate, Cond.selects RX2 yX2_countLate yX2_countLate, Cond.code yX2_countLate cX2_countLate 4 (some .int)]
def wsX4_run_r7 : List Cond := [Cond.methodLink RX2 129 yX2_isLate, Cond.instanceMethod yX2_isLate, Cond.selects RX2 yX2_isLate yX2_isLate, Cond.code yX2_isLate cX2_isLate 3 (some .boolean), Cond.methodLink RX2 126 yX2_delay, Cond.instanceMethod yX2_delay, Cond.selects RX2 yX2_delay yX2_delay, Cond.code yX2_delay cX2_delay 2 (some .int)]
def wsX4_run : List Cond := .code yX4_run cX4_run 5 (some .int) :: ((wsX4_run_r1 ++ (wsX4_run_r2 ++ (wsX4_run_r3 ++ (wsX4_run_r4 ++ (wsX4_run_r5 ++ (wsX4_run_r6 ++ wsX4_run_r7)))))) ++ wsX40 ++ wsX30 ++ wsX20 ++ wsX00 ++ wsX10 ++ (vx_atS RX4 131 "java/lang/IllegalArgumentException" ["java/lang/RuntimeException", "java/lang/Exception"]).filter goodWord ++ (vx_atS RX4 201 "java/lang/IndexOutOfBoundsException" ["java/lang/RuntimeException", "java/lang/Exception"]).filter goodWord ++ (vx_atS RX4 206 "java/lang/IllegalStateException" ["java/lang/RuntimeException", "java/lang/Exception"]).filter goodWord)
def wsX4_call_r1 : List Cond := [Cond.classLink RX4 127 "java/lang/IllegalArgumentException", Cond.initialized "java/lang/IllegalArgumentException", Cond.fieldLink RX4 28 "DaySimulate" "play" "LDaySimulate$Play;", Cond.fieldLink RX4 99 "DaySimulate$Play" "day" "LDaySimulate$Day;", Cond.fieldLink RX4 103 "DaySimulate$Day" "calls" "I", Cond.fieldLink RX4 108 "DaySimulate$Day" "minute" "[I", Cond.fieldLink RX4 112 "DaySimulate$Day" "area" "[I", Cond.fieldLink RX4 115 "DaySimulate$Day" "rank" "[I", Cond.fieldLink RX4 118 "DaySimulate$Play" "unitOf" "[I", Cond.fieldLink RX4 36 "DaySimulate" "mark" "I", Cond.methodLink RX4 68 yX4_isBelow, Cond.static yX4_isBelow, Cond.initialized RX4, Cond.code yX4_isBelow cX4_isBelow 2 (some .boolean), Cond.methodLink RX4 71 yX4_needKnown, Cond.static yX4_needKnown, Cond.code yX4_needKnown cX4_needKnown 1 none, Cond.methodLink RX4 121 yX2_delay, Cond.instanceMethod yX2_delay, Cond.selects RX2 yX2_delay yX2_delay, Cond.initialized RX2, Cond.code yX2_delay cX2_delay 2 (some .int), Cond.fieldLink RX2 18 "DaySimulate$Play" "unitOf" "[I", Cond.fieldLink RX2 25 "DaySimulate$Play" "arrival" "[I"]
def wsX4_call_r2 : List Cond := [Cond.fieldLink RX2 12 "DaySimulate$Play" "day" "LDaySimulate$Day;", Cond.fieldLink RX2 113 "DaySimulate$Day" "minute" "[I", Cond.methodLink RX4 124 yX2_whyLate, Cond.instanceMethod yX2_whyLate, Cond.selects RX2 yX2_whyLate yX2_whyLate, Cond.code yX2_whyLate cX2_whyLate 3 (some .int), Cond.fieldLink RX2 22 "DaySimulate$Play" "wayOf" "[I", Cond.methodLink RX2 129 yX2_isLate, Cond.instanceMethod yX2_isLate, Cond.selects RX2 yX2_isLate yX2_isLate, Cond.code yX2_isLate cX2_isLate 3 (some .boolean), Cond.methodLink RX2 126 yX2_delay]
def wsX4_call : List Cond := .code yX4_call cX4_call 4 (some .int) :: ((wsX4_call_r1 ++ wsX4_call_r2) ++ wsX40 ++ wsX20 ++ wsX00 ++ (vx_atS RX4 131 "java/lang/IllegalArgumentException" ["java/lang/RuntimeException", "java/lang/Exception"]).filter goodWord)
def wsX4_commonDivisor : List Cond := .code yX4_commonDivisor cX4_commonDivisor 6 (some .int) :: ([.methodLink RX4 190 Lib.Math.max.name, .static Lib.Math.max.name, .initialized "java/lang/Math", .code Lib.Math.max.name Lib.Math.max.code 2 (some .int)])
def wsX4_lowestTerm : List Cond := .code yX4_lowestTerm cX4_lowestTerm 4 (some .int) :: ([.methodLink RX4 187 yX4_commonDivisor, .static yX4_commonDivisor, .initialized RX4, .code yX4_commonDivisor cX4_commonDivisor 6 (some .int), .methodLink RX4 190 Lib.Math.max.name, .static Lib.Math.max.name, .initialized "java/lang/Math", .code Lib.Math.max.name Lib.Math.max.code 2 (some .int)])
def wsX4_share_r1 : List Cond := [Cond.classLink RX4 134 "java/lang/ArithmeticException", Cond.initialized "java/lang/ArithmeticException", Cond.fieldLink RX4 28 "DaySimulate" "play" "LDaySimulate$Play;", Cond.fieldLink RX4 99 "DaySimulate$Play" "day" "LDaySimulate$Day;", Cond.fieldLink RX4 103 "DaySimulate$Day" "calls" "I", Cond.fieldLink RX4 36 "DaySimulate" "mark" "I", Cond.methodLink RX4 57 yX4_isWithin, Cond.static yX4_isWithin, Cond.initialized RX4, Cond.code yX4_isWithin cX4_isWithin 3 (some .boolean), Cond.methodLink RX4 71 yX4_needKnown, Cond.static yX4_needKnown, Cond.code yX4_needKnown cX4_needKnown 1 none, Cond.classLink RX4 127 "java/lang/IllegalArgumentException", Cond.initialized "java/lang/IllegalArgumentException", Cond.methodLink RX4 139 yX2_countLate, Cond.instanceMethod yX2_countLate, Cond.selects RX2 yX2_countLate yX2_countLate, Cond.initialized RX2, Cond.code yX2_countLate cX2_countLate 4 (some .int), Cond.fieldLink RX2 12 "DaySimulate$Play" "day" "LDaySimulate$Day;", Cond.fieldLink RX2 53 "DaySimulate$Day" "calls" "I", Cond.methodLink RX2 129 yX2_isLate, Cond.instanceMethod yX2_isLate]
def wsX4_share_r2 : List Cond := [Cond.selects RX2 yX2_isLate yX2_isLate, Cond.code yX2_isLate cX2_isLate 3 (some .boolean), Cond.fieldLink RX2 18 "DaySimulate$Play" "unitOf" "[I", Cond.methodLink RX2 126 yX2_delay, Cond.instanceMethod yX2_delay, Cond.selects RX2 yX2_delay yX2_delay, Cond.code yX2_delay cX2_delay 2 (some .int), Cond.fieldLink RX2 25 "DaySimulate$Play" "arrival" "[I", Cond.fieldLink RX2 113 "DaySimulate$Day" "minute" "[I", Cond.methodLink RX4 142 yX4_lowestTerm, Cond.static yX4_lowestTerm, Cond.code yX4_lowestTerm cX4_lowestTerm 4 (some .int), Cond.methodLink RX4 187 yX4_commonDivisor, Cond.static yX4_commonDivisor, Cond.code yX4_commonDivisor cX4_commonDivisor 6 (some .int), Cond.methodLink RX4 190 Lib.Math.max.name, Cond.static Lib.Math.max.name, Cond.initialized "java/lang/Math", Cond.code Lib.Math.max.name Lib.Math.max.code 2 (some .int)]
def wsX4_share : List Cond := .code yX4_share cX4_share 3 (some .int) :: ((wsX4_share_r1 ++ wsX4_share_r2) ++ wsX40 ++ wsX20 ++ wsX00 ++ (vx_atS RX4 138 "java/lang/ArithmeticException" ["java/lang/RuntimeException", "java/lang/Exception"]).filter goodWord ++ (vx_atS RX4 131 "java/lang/IllegalArgumentException" ["java/lang/RuntimeException", "java/lang/Exception"]).filter goodWord)
def wsX4_mean : List Cond := .code yX4_mean cX4_mean 2 (some .int) :: ([.classLink RX4 134 "java/lang/ArithmeticException", .initialized "java/lang/ArithmeticException", .fieldLink RX4 28 "DaySimulate" "play" "LDaySimulate$Play;", .constantLong RX4 156 (1000), .methodLink RX4 146 yX2_countServed, .instanceMethod yX2_countServed, .selects RX2 yX2_countServed yX2_countServed, .initialized RX2, .code yX2_countServed cX2_countServed 3 (some .int), .fieldLink RX2 12 "DaySimulate$Play" "day" "LDaySimulate$Day;", .fieldLink RX2 53 "DaySimulate$Day" "calls" "I", .fieldLink RX2 18 "DaySimulate$Play" "unitOf" "[I", .methodLink RX4 152 yX2_sumOfDelays, .instanceMethod yX2_sumOfDelays, .selects RX2 yX2_sumOfDelays yX2_sumOfDelays, .code yX2_sumOfDelays cX2_sumOfDelays 4 (some .long), .methodLink RX2 126 yX2_delay, .instanceMethod yX2_delay, .selects RX2 yX2_delay yX2_delay, .code yX2_delay cX2_delay 2 (some .int), .fieldLink RX2 25 "DaySimulate$Play" "arrival" "[I", .fieldLink RX2 113 "DaySimulate$Day" "minute" "[I"] ++ wsX40 ++ wsX20 ++ wsX00 ++ (vx_atS RX4 138 "java/lang/ArithmeticException" ["java/lang/RuntimeException", "java/lang/Exception"]).filter goodWord)
def wsX4_missed : List Cond := .code yX4_missed cX4_missed 1 (some .int) :: ([.fieldLink RX4 28 "DaySimulate" "play" "LDaySimulate$Play;", .fieldLink RX4 158 "DaySimulate$Play" "missedMinutes" "I"] ++ wsX40 ++ wsX20)
def wsX4_work : List Cond := .code yX4_work cX4_work 2 (some .int) :: ([.fieldLink RX4 21 "DaySimulate" "fleet" "LDaySimulate$Fleet;", .fieldLink RX4 81 "DaySimulate$Fleet" "units" "I", .fieldLink RX4 28 "DaySimulate" "play" "LDaySimulate$Play;", .fieldLink RX4 161 "DaySimulate$Play" "workOf" "[I", .methodLink RX4 68 yX4_isBelow, .static yX4_isBelow, .initialized RX4, .code yX4_isBelow cX4_isBelow 2 (some .boolean), .methodLink RX4 71 yX4_needKnown, .static yX4_needKnown, .code yX4_needKnown cX4_needKnown 1 none, .classLink RX4 127 "java/lang/IllegalArgumentException", .initialized "java/lang/IllegalArgumentException"] ++ wsX40 ++ wsX10 ++ wsX20 ++ (vx_atS RX4 131 "java/lang/IllegalArgumentException" ["java/lang/RuntimeException", "java/lang/Exception"]).filter goodWord)
def wsX4_worst : List Cond := .code yX4_worst cX4_worst 1 (some .int) :: ([.fieldLink RX4 28 "DaySimulate" "play" "LDaySimulate$Play;", .fieldLink RX4 36 "DaySimulate" "mark" "I", .methodLink RX4 164 yX2_hourOfMostLate, .instanceMethod yX2_hourOfMostLate, .selects RX2 yX2_hourOfMostLate yX2_hourOfMostLate, .initialized RX2, .code yX2_hourOfMostLate cX2_hourOfMostLate 5 (some .int), .fieldLink RX2 43 "DaySimulate$Play" "lateInHour" "[I", .fieldLink RX2 12 "DaySimulate$Play" "day" "LDaySimulate$Day;", .fieldLink RX2 53 "DaySimulate$Day" "calls" "I", .fieldLink RX2 113 "DaySimulate$Day" "minute" "[I", .methodLink RX2 129 yX2_isLate, .instanceMethod yX2_isLate, .selects RX2 yX2_isLate yX2_isLate, .code yX2_isLate cX2_isLate 3 (some .boolean), .fieldLink RX2 18 "DaySimulate$Play" "unitOf" "[I", .methodLink RX2 126 yX2_delay, .instanceMethod yX2_delay, .selects RX2 yX2_delay yX2_delay, .code yX2_delay cX2_delay 2 (some .int), .fieldLink RX2 25 "DaySimulate$Play" "arrival" "[I"] ++ wsX40 ++ wsX20 ++ wsX00)
def wsX4_arrived : List Cond := .code yX4_arrived cX4_arrived 2 (some .int) :: ([.fieldLink RX4 28 "DaySimulate" "play" "LDaySimulate$Play;", .methodLink RX4 57 yX4_isWithin, .static yX4_isWithin, .initialized RX4, .code yX4_isWithin cX4_isWithin 3 (some .boolean), .methodLink RX4 43 yX4_needRange, .static yX4_needRange, .code yX4_needRange cX4_needRange 1 none, .classLink RX4 197 "java/lang/IndexOutOfBoundsException", .initialized "java/lang/IndexOutOfBoundsException", .methodLink RX4 167 yX2_countArrivedBy, .instanceMethod yX2_countArrivedBy, .selects RX2 yX2_countArrivedBy yX2_countArrivedBy, .initialized RX2, .code yX2_countArrivedBy cX2_countArrivedBy 4 (some .int), .fieldLink RX2 12 "DaySimulate$Play" "day" "LDaySimulate$Day;", .fieldLink RX2 53 "DaySimulate$Day" "calls" "I", .fieldLink RX2 18 "DaySimulate$Play" "unitOf" "[I", .fieldLink RX2 25 "DaySimulate$Play" "arrival" "[I"] ++ wsX40 ++ wsX20 ++ wsX00 ++ (vx_atS RX4 201 "java/lang/IndexOutOfBoundsException" ["java/lang/RuntimeException", "java/lang/Exception"]).filter goodWord)
def wsX4_unlucky_r1 : List Cond := [Cond.fieldLink RX4 14 "DaySimulate" "town" "LDaySimulate$Town;", Cond.fieldLink RX4 61 "DaySimulate$Town" "areas" "I", Cond.fieldLink RX4 28 "DaySimulate" "play" "LDaySimulate$Play;", Cond.methodLink RX4 68 yX4_isBelow, Cond.static yX4_isBelow, Cond.initialized RX4, Cond.code yX4_isBelow cX4_isBelow 2 (some .boolean), Cond.methodLink RX4 71 yX4_needKnown, Cond.static yX4_needKnown, Cond.code yX4_needKnown cX4_needKnown 1 none, Cond.classLink RX4 127 "java/lang/IllegalArgumentException", Cond.initialized "java/lang/IllegalArgumentException", Cond.methodLink RX4 57 yX4_isWithin, Cond.static yX4_isWithin, Cond.code yX4_isWithin cX4_isWithin 3 (some .boolean), Cond.methodLink RX4 43 yX4_needRange, Cond.static yX4_needRange, Cond.code yX4_needRange cX4_needRange 1 none, Cond.classLink RX4 197 "java/lang/IndexOutOfBoundsException", Cond.initialized "java/lang/IndexOutOfBoundsException", Cond.methodLink RX4 78 yX4_needState, Cond.static yX4_needState, Cond.code yX4_needState cX4_needState 1 none, Cond.classLink RX4 202 "java/lang/IllegalStateException"]
def wsX4_unlucky_r2 : List Cond := [Cond.initialized "java/lang/IllegalStateException", Cond.methodLink RX4 95 yX4_lateOn, Cond.instanceMethod yX4_lateOn, Cond.selects RX4 yX4_lateOn yX4_lateOn, Cond.code yX4_lateOn cX4_lateOn 5 (some .int), Cond.fieldLink RX4 99 "DaySimulate$Play" "day" "LDaySimulate$Day;", Cond.fieldLink RX4 21 "DaySimulate" "fleet" "LDaySimulate$Fleet;", Cond.fieldLink RX4 32 "DaySimulate" "pace" "I", Cond.fieldLink RX4 36 "DaySimulate" "mark" "I", Cond.methodLink RX4 176 yX0_draw, Cond.instanceMethod yX0_draw, Cond.selects RX0 yX0_draw yX0_draw, Cond.initialized RX0, Cond.code yX0_draw cX0_draw 9 none, Cond.fieldLink RX0 24 "DaySimulate$Day" "calls" "I", Cond.constant RX0 28 (1000003), Cond.fieldLink RX0 9 "DaySimulate$Day" "minute" "[I", Cond.fieldLink RX0 18 "DaySimulate$Day" "rank" "[I", Cond.fieldLink RX0 21 "DaySimulate$Day" "lasts" "[I", Cond.fieldLink RX0 15 "DaySimulate$Day" "area" "[I", Cond.methodLink RX0 29 yX0_mix, Cond.static yX0_mix, Cond.code yX0_mix cX0_mix 2 (some .int), Cond.constant RX0 38 (-2048144789)]
def wsX4_unlucky_r3 : List Cond := [Cond.constant RX0 39 (-1028477387), Cond.methodLink RX0 33 yX3_areaOfDraw, Cond.instanceMethod yX3_areaOfDraw, Cond.selects RX3 yX3_areaOfDraw yX3_areaOfDraw, Cond.initialized RX3, Cond.code yX3_areaOfDraw cX3_areaOfDraw 5 (some .int), Cond.fieldLink RX3 34 "DaySimulate$Town" "weightSum" "I", Cond.methodLink RX3 37 Lib.Math.max.name, Cond.static Lib.Math.max.name, Cond.initialized "java/lang/Math", Cond.code Lib.Math.max.name Lib.Math.max.code 2 (some .int), Cond.fieldLink RX3 31 "DaySimulate$Town" "areas" "I", Cond.fieldLink RX3 24 "DaySimulate$Town" "weight" "[I", Cond.methodLink RX4 180 yX2_begin, Cond.instanceMethod yX2_begin, Cond.selects RX2 yX2_begin yX2_begin, Cond.initialized RX2, Cond.code yX2_begin cX2_begin 6 none, Cond.fieldLink RX2 56 "DaySimulate$Fleet" "units" "I", Cond.fieldLink RX2 46 "DaySimulate$Play" "units" "I", Cond.fieldLink RX2 50 "DaySimulate$Play" "missedMinutes" "I", Cond.fieldLink RX2 40 "DaySimulate$Play" "backAt" "[I", Cond.fieldLink RX2 28 "DaySimulate$Play" "workOf" "[I", Cond.fieldLink RX2 59 "DaySimulate$Fleet" "stationOf" "[[I"]
def wsX4_unlucky_r4 : List Cond := [Cond.fieldLink RX2 18 "DaySimulate$Play" "unitOf" "[I", Cond.methodLink RX2 62 yX2_post, Cond.instanceMethod yX2_post, Cond.selects RX2 yX2_post yX2_post, Cond.code yX2_post cX2_post 6 none, Cond.fieldLink RX2 31 "DaySimulate$Play" "leftOut" "[Z", Cond.fieldLink RX2 66 "DaySimulate$Town" "areas" "I", Cond.fieldLink RX2 37 "DaySimulate$Play" "wayTo" "[[I", Cond.methodLink RX2 71 yX3_wayMinutes, Cond.instanceMethod yX3_wayMinutes, Cond.selects RX3 yX3_wayMinutes yX3_wayMinutes, Cond.code yX3_wayMinutes cX3_wayMinutes 5 (some .int), Cond.fieldLink RX3 9 "DaySimulate$Town" "stationX" "[I", Cond.fieldLink RX3 18 "DaySimulate$Town" "areaX" "[I", Cond.methodLink RX3 43 Lib.Math.abs.name, Cond.static Lib.Math.abs.name, Cond.code Lib.Math.abs.name Lib.Math.abs.code 1 (some .int), Cond.fieldLink RX3 15 "DaySimulate$Town" "stationY" "[I", Cond.fieldLink RX3 21 "DaySimulate$Town" "areaY" "[I", Cond.methodLink RX4 184 yX2_playOut, Cond.instanceMethod yX2_playOut, Cond.selects RX2 yX2_playOut yX2_playOut, Cond.code yX2_playOut cX2_playOut 4 none, Cond.constant RX2 75 (2147483647)]
def wsX4_unlucky_r5 : List Cond := [Cond.methodLink RX2 88 Lib.Math.min.name, Cond.static Lib.Math.min.name, Cond.code Lib.Math.min.name Lib.Math.min.code 2 (some .int), Cond.methodLink RX2 94 Lib.Math.max.name, Cond.methodLink RX2 76 yX2_sendUnits, Cond.instanceMethod yX2_sendUnits, Cond.selects RX2 yX2_sendUnits yX2_sendUnits, Cond.code yX2_sendUnits cX2_sendUnits 5 none, Cond.fieldLink RX2 12 "DaySimulate$Play" "day" "LDaySimulate$Day;", Cond.fieldLink RX2 100 "DaySimulate$Day" "area" "[I", Cond.methodLink RX2 97 yX2_firstWaiting, Cond.instanceMethod yX2_firstWaiting, Cond.selects RX2 yX2_firstWaiting yX2_firstWaiting, Cond.code yX2_firstWaiting cX2_firstWaiting 5 (some .int), Cond.fieldLink RX2 53 "DaySimulate$Day" "calls" "I", Cond.fieldLink RX2 113 "DaySimulate$Day" "minute" "[I", Cond.methodLink RX2 116 yX2_goesAhead, Cond.instanceMethod yX2_goesAhead, Cond.selects RX2 yX2_goesAhead yX2_goesAhead, Cond.code yX2_goesAhead cX2_goesAhead 3 (some .boolean), Cond.fieldLink RX2 120 "DaySimulate$Day" "rank" "[I", Cond.methodLink RX2 103 yX2_nearestFree, Cond.instanceMethod yX2_nearestFree, Cond.selects RX2 yX2_nearestFree yX2_nearestFree]
def wsX4_unlucky_r6 : List Cond := [Cond.code yX2_nearestFree cX2_nearestFree 6 (some .int), Cond.methodLink RX2 123 yX2_isFree, Cond.instanceMethod yX2_isFree, Cond.selects RX2 yX2_isFree yX2_isFree, Cond.code yX2_isFree cX2_isFree 3 (some .boolean), Cond.methodLink RX2 106 yX2_send, Cond.instanceMethod yX2_send, Cond.selects RX2 yX2_send yX2_send, Cond.code yX2_send cX2_send 5 none, Cond.fieldLink RX2 22 "DaySimulate$Play" "wayOf" "[I", Cond.fieldLink RX2 25 "DaySimulate$Play" "arrival" "[I", Cond.fieldLink RX2 110 "DaySimulate$Day" "lasts" "[I", Cond.methodLink RX2 80 yX2_nextEvent, Cond.instanceMethod yX2_nextEvent, Cond.selects RX2 yX2_nextEvent yX2_nextEvent, Cond.code yX2_nextEvent cX2_nextEvent 4 (some .int), Cond.methodLink RX2 84 yX2_isAnyFree, Cond.instanceMethod yX2_isAnyFree, Cond.selects RX2 yX2_isAnyFree yX2_isAnyFree, Cond.code yX2_isAnyFree cX2_isAnyFree 3 (some .boolean), Cond.methodLink RX4 139 yX2_countLate, Cond.instanceMethod yX2_countLate, Cond.selects RX2 yX2_countLate yX2_countLate, Cond.code yX2_countLate cX2_countLate 4 (some .int)]
def wsX4_unlucky_r7 : List Cond := [Cond.methodLink RX2 129 yX2_isLate, Cond.instanceMethod yX2_isLate, Cond.selects RX2 yX2_isLate yX2_isLate, Cond.code yX2_isLate cX2_isLate 3 (some .boolean), Cond.methodLink RX2 126 yX2_delay, Cond.instanceMethod yX2_delay, Cond.selects RX2 yX2_delay yX2_delay, Cond.code yX2_delay cX2_delay 2 (some .int), Cond.methodLink RX4 170 yX2_forget, Cond.instanceMethod yX2_forget, Cond.selects RX2 yX2_forget yX2_forget, Cond.code yX2_forget cX2_forget 2 none]
def wsX4_unlucky : List Cond := .code yX4_unlucky cX4_unlucky 10 (some .int) :: ((wsX4_unlucky_r1 ++ (wsX4_unlucky_r2 ++ (wsX4_unlucky_r3 ++ (wsX4_unlucky_r4 ++ (wsX4_unlucky_r5 ++ (wsX4_unlucky_r6 ++ wsX4_unlucky_r7)))))) ++ wsX40 ++ wsX30 ++ wsX20 ++ wsX00 ++ wsX10 ++ (vx_atS RX4 131 "java/lang/IllegalArgumentException" ["java/lang/RuntimeException", "java/lang/Exception"]).filter goodWord ++ (vx_atS RX4 201 "java/lang/IndexOutOfBoundsException" ["java/lang/RuntimeException", "java/lang/Exception"]).filter goodWord ++ (vx_atS RX4 206 "java/lang/IllegalStateException" ["java/lang/RuntimeException", "java/lang/Exception"]).filter goodWord)
def wsX4_waysOfHeads : List Cond := .code yX4_waysOfHeads cX4_waysOfHeads 5 (some .int) :: ([])
def wsX4_compare_r1 : List Cond := [Cond.fieldLink RX4 14 "DaySimulate" "town" "LDaySimulate$Town;", Cond.fieldLink RX4 61 "DaySimulate$Town" "areas" "I", Cond.fieldLink RX4 28 "DaySimulate" "play" "LDaySimulate$Play;", Cond.methodLink RX4 68 yX4_isBelow, Cond.static yX4_isBelow, Cond.initialized RX4, Cond.code yX4_isBelow cX4_isBelow 2 (some .boolean), Cond.methodLink RX4 57 yX4_isWithin, Cond.static yX4_isWithin, Cond.code yX4_isWithin cX4_isWithin 3 (some .boolean), Cond.methodLink RX4 71 yX4_needKnown, Cond.static yX4_needKnown, Cond.code yX4_needKnown cX4_needKnown 1 none, Cond.classLink RX4 127 "java/lang/IllegalArgumentException", Cond.initialized "java/lang/IllegalArgumentException", Cond.methodLink RX4 43 yX4_needRange, Cond.static yX4_needRange, Cond.code yX4_needRange cX4_needRange 1 none, Cond.classLink RX4 197 "java/lang/IndexOutOfBoundsException", Cond.initialized "java/lang/IndexOutOfBoundsException", Cond.methodLink RX4 78 yX4_needState, Cond.static yX4_needState, Cond.code yX4_needState cX4_needState 1 none, Cond.classLink RX4 202 "java/lang/IllegalStateException"]
def wsX4_compare_r2 : List Cond := [Cond.initialized "java/lang/IllegalStateException", Cond.methodLink RX4 95 yX4_lateOn, Cond.instanceMethod yX4_lateOn, Cond.selects RX4 yX4_lateOn yX4_lateOn, Cond.code yX4_lateOn cX4_lateOn 5 (some .int), Cond.fieldLink RX4 99 "DaySimulate$Play" "day" "LDaySimulate$Day;", Cond.fieldLink RX4 21 "DaySimulate" "fleet" "LDaySimulate$Fleet;", Cond.fieldLink RX4 32 "DaySimulate" "pace" "I", Cond.fieldLink RX4 36 "DaySimulate" "mark" "I", Cond.methodLink RX4 176 yX0_draw, Cond.instanceMethod yX0_draw, Cond.selects RX0 yX0_draw yX0_draw, Cond.initialized RX0, Cond.code yX0_draw cX0_draw 9 none, Cond.fieldLink RX0 24 "DaySimulate$Day" "calls" "I", Cond.constant RX0 28 (1000003), Cond.fieldLink RX0 9 "DaySimulate$Day" "minute" "[I", Cond.fieldLink RX0 18 "DaySimulate$Day" "rank" "[I", Cond.fieldLink RX0 21 "DaySimulate$Day" "lasts" "[I", Cond.fieldLink RX0 15 "DaySimulate$Day" "area" "[I", Cond.methodLink RX0 29 yX0_mix, Cond.static yX0_mix, Cond.code yX0_mix cX0_mix 2 (some .int), Cond.constant RX0 38 (-2048144789)]
def wsX4_compare_r3 : List Cond := [Cond.constant RX0 39 (-1028477387), Cond.methodLink RX0 33 yX3_areaOfDraw, Cond.instanceMethod yX3_areaOfDraw, Cond.selects RX3 yX3_areaOfDraw yX3_areaOfDraw, Cond.initialized RX3, Cond.code yX3_areaOfDraw cX3_areaOfDraw 5 (some .int), Cond.fieldLink RX3 34 "DaySimulate$Town" "weightSum" "I", Cond.methodLink RX3 37 Lib.Math.max.name, Cond.static Lib.Math.max.name, Cond.initialized "java/lang/Math", Cond.code Lib.Math.max.name Lib.Math.max.code 2 (some .int), Cond.fieldLink RX3 31 "DaySimulate$Town" "areas" "I", Cond.fieldLink RX3 24 "DaySimulate$Town" "weight" "[I", Cond.methodLink RX4 180 yX2_begin, Cond.instanceMethod yX2_begin, Cond.selects RX2 yX2_begin yX2_begin, Cond.initialized RX2, Cond.code yX2_begin cX2_begin 6 none, Cond.fieldLink RX2 56 "DaySimulate$Fleet" "units" "I", Cond.fieldLink RX2 46 "DaySimulate$Play" "units" "I", Cond.fieldLink RX2 50 "DaySimulate$Play" "missedMinutes" "I", Cond.fieldLink RX2 40 "DaySimulate$Play" "backAt" "[I", Cond.fieldLink RX2 28 "DaySimulate$Play" "workOf" "[I", Cond.fieldLink RX2 59 "DaySimulate$Fleet" "stationOf" "[[I"]
def wsX4_compare_r4 : List Cond := [Cond.fieldLink RX2 18 "DaySimulate$Play" "unitOf" "[I", Cond.methodLink RX2 62 yX2_post, Cond.instanceMethod yX2_post, Cond.selects RX2 yX2_post yX2_post, Cond.code yX2_post cX2_post 6 none, Cond.fieldLink RX2 31 "DaySimulate$Play" "leftOut" "[Z", Cond.fieldLink RX2 66 "DaySimulate$Town" "areas" "I", Cond.fieldLink RX2 37 "DaySimulate$Play" "wayTo" "[[I", Cond.methodLink RX2 71 yX3_wayMinutes, Cond.instanceMethod yX3_wayMinutes, Cond.selects RX3 yX3_wayMinutes yX3_wayMinutes, Cond.code yX3_wayMinutes cX3_wayMinutes 5 (some .int), Cond.fieldLink RX3 9 "DaySimulate$Town" "stationX" "[I", Cond.fieldLink RX3 18 "DaySimulate$Town" "areaX" "[I", Cond.methodLink RX3 43 Lib.Math.abs.name, Cond.static Lib.Math.abs.name, Cond.code Lib.Math.abs.name Lib.Math.abs.code 1 (some .int), Cond.fieldLink RX3 15 "DaySimulate$Town" "stationY" "[I", Cond.fieldLink RX3 21 "DaySimulate$Town" "areaY" "[I", Cond.methodLink RX4 184 yX2_playOut, Cond.instanceMethod yX2_playOut, Cond.selects RX2 yX2_playOut yX2_playOut, Cond.code yX2_playOut cX2_playOut 4 none, Cond.constant RX2 75 (2147483647)]
def wsX4_compare_r5 : List Cond := [Cond.methodLink RX2 88 Lib.Math.min.name, Cond.static Lib.Math.min.name, Cond.code Lib.Math.min.name Lib.Math.min.code 2 (some .int), Cond.methodLink RX2 94 Lib.Math.max.name, Cond.methodLink RX2 76 yX2_sendUnits, Cond.instanceMethod yX2_sendUnits, Cond.selects RX2 yX2_sendUnits yX2_sendUnits, Cond.code yX2_sendUnits cX2_sendUnits 5 none, Cond.fieldLink RX2 12 "DaySimulate$Play" "day" "LDaySimulate$Day;", Cond.fieldLink RX2 100 "DaySimulate$Day" "area" "[I", Cond.methodLink RX2 97 yX2_firstWaiting, Cond.instanceMethod yX2_firstWaiting, Cond.selects RX2 yX2_firstWaiting yX2_firstWaiting, Cond.code yX2_firstWaiting cX2_firstWaiting 5 (some .int), Cond.fieldLink RX2 53 "DaySimulate$Day" "calls" "I", Cond.fieldLink RX2 113 "DaySimulate$Day" "minute" "[I", Cond.methodLink RX2 116 yX2_goesAhead, Cond.instanceMethod yX2_goesAhead, Cond.selects RX2 yX2_goesAhead yX2_goesAhead, Cond.code yX2_goesAhead cX2_goesAhead 3 (some .boolean), Cond.fieldLink RX2 120 "DaySimulate$Day" "rank" "[I", Cond.methodLink RX2 103 yX2_nearestFree, Cond.instanceMethod yX2_nearestFree, Cond.selects RX2 yX2_nearestFree yX2_nearestFree]
def wsX4_compare_r6 : List Cond := [Cond.code yX2_nearestFree cX2_nearestFree 6 (some .int), Cond.methodLink RX2 123 yX2_isFree, Cond.instanceMethod yX2_isFree, Cond.selects RX2 yX2_isFree yX2_isFree, Cond.code yX2_isFree cX2_isFree 3 (some .boolean), Cond.methodLink RX2 106 yX2_send, Cond.instanceMethod yX2_send, Cond.selects RX2 yX2_send yX2_send, Cond.code yX2_send cX2_send 5 none, Cond.fieldLink RX2 22 "DaySimulate$Play" "wayOf" "[I", Cond.fieldLink RX2 25 "DaySimulate$Play" "arrival" "[I", Cond.fieldLink RX2 110 "DaySimulate$Day" "lasts" "[I", Cond.methodLink RX2 80 yX2_nextEvent, Cond.instanceMethod yX2_nextEvent, Cond.selects RX2 yX2_nextEvent yX2_nextEvent, Cond.code yX2_nextEvent cX2_nextEvent 4 (some .int), Cond.methodLink RX2 84 yX2_isAnyFree, Cond.instanceMethod yX2_isAnyFree, Cond.selects RX2 yX2_isAnyFree yX2_isAnyFree, Cond.code yX2_isAnyFree cX2_isAnyFree 3 (some .boolean), Cond.methodLink RX4 139 yX2_countLate, Cond.instanceMethod yX2_countLate, Cond.selects RX2 yX2_countLate yX2_countLate, Cond.code yX2_countLate cX2_countLate 4 (some .int)]
def wsX4_compare_r7 : List Cond := [Cond.methodLink RX2 129 yX2_isLate, Cond.instanceMethod yX2_isLate, Cond.selects RX2 yX2_isLate yX2_isLate, Cond.code yX2_isLate cX2_isLate 3 (some .boolean), Cond.methodLink RX2 126 yX2_delay, Cond.instanceMethod yX2_delay, Cond.selects RX2 yX2_delay yX2_delay, Cond.code yX2_delay cX2_delay 2 (some .int), Cond.methodLink RX4 170 yX2_forget, Cond.instanceMethod yX2_forget, Cond.selects RX2 yX2_forget yX2_forget, Cond.code yX2_forget cX2_forget 2 none, Cond.methodLink RX4 173 yX4_waysOfHeads, Cond.static yX4_waysOfHeads, Cond.code yX4_waysOfHeads cX4_waysOfHeads 5 (some .int), Cond.methodLink RX4 142 yX4_lowestTerm, Cond.static yX4_lowestTerm, Cond.code yX4_lowestTerm cX4_lowestTerm 4 (some .int), Cond.methodLink RX4 187 yX4_commonDivisor, Cond.static yX4_commonDivisor, Cond.code yX4_commonDivisor cX4_commonDivisor 6 (some .int), Cond.methodLink RX4 190 Lib.Math.max.name]
def wsX4_compare : List Cond := .code yX4_compare cX4_compare 12 (some .int) :: ((wsX4_compare_r1 ++ (wsX4_compare_r2 ++ (wsX4_compare_r3 ++ (wsX4_compare_r4 ++ (wsX4_compare_r5 ++ (wsX4_compare_r6 ++ wsX4_compare_r7)))))) ++ wsX40 ++ wsX30 ++ wsX20 ++ wsX00 ++ wsX10 ++ (vx_atS RX4 131 "java/lang/IllegalArgumentException" ["java/lang/RuntimeException", "java/lang/Exception"]).filter goodWord ++ (vx_atS RX4 201 "java/lang/IndexOutOfBoundsException" ["java/lang/RuntimeException", "java/lang/Exception"]).filter goodWord ++ (vx_atS RX4 206 "java/lang/IllegalStateException" ["java/lang/RuntimeException", "java/lang/Exception"]).filter goodWord)
def wsX5_init : List Cond := .code yX5_init cX5_init 1 none :: ([.methodLink RX5 1 objectInit, .instanceMethod objectInit, .code objectInit ⟨#[0xb1]⟩ 1 none, .fieldLink RX5 7 "DaySimulateModel" "pace" "I", .fieldLink RX5 13 "DaySimulateModel" "mark" "I", .arrayClass .int, .fieldLink RX5 16 "DaySimulateModel" "stationX" "[I", .fieldLink RX5 20 "DaySimulateModel" "stationY" "[I", .fieldLink RX5 23 "DaySimulateModel" "areaX" "[I", .fieldLink RX5 26 "DaySimulateModel" "areaY" "[I", .fieldLink RX5 29 "DaySimulateModel" "weight" "[I", .fieldLink RX5 32 "DaySimulateModel" "stands" "[I", .fieldLink RX5 35 "DaySimulateModel" "minute" "[I", .fieldLink RX5 38 "DaySimulateModel" "place" "[I", .fieldLink RX5 41 "DaySimulateModel" "rank" "[I", .fieldLink RX5 44 "DaySimulateModel" "lasts" "[I", .fieldLink RX5 47 "DaySimulateModel" "unit" "[I", .fieldLink RX5 50 "DaySimulateModel" "came" "[I", .fieldLink RX5 53 "DaySimulateModel" "way" "[I", .fieldLink RX5 56 "DaySimulateModel" "back" "[I", .fieldLink RX5 59 "DaySimulateModel" "work" "[I", .fieldLink RX5 62 "DaySimulateModel" "busy" "[I"] ++ wsX50)
def wsX5_thrown : List Cond := .code yX5_thrown cX5_thrown 1 (some .int) :: ([.fieldLink RX5 65 "DaySimulateModel" "thrown" "I"] ++ wsX50)
def wsX5_throwing : List Cond := .code yX5_throwing cX5_throwing 4 (some .boolean) :: ([.fieldLink RX5 65 "DaySimulateModel" "thrown" "I"] ++ wsX50)
def wsX5_in : List Cond := .code yX5_in cX5_in 3 (some .boolean) :: ([])
def wsX5_isSpot : List Cond := .code yX5_isSpot cX5_isSpot 2 (some .boolean) :: ([.methodLink RX5 68 yX5_in, .static yX5_in, .initialized RX5, .code yX5_in cX5_in 3 (some .boolean)])
def wsX5_station : List Cond := .code yX5_station cX5_station 3 (some .int) :: ([.fieldLink RX5 76 "DaySimulateModel" "stations" "I", .fieldLink RX5 16 "DaySimulateModel" "stationX" "[I", .fieldLink RX5 20 "DaySimulateModel" "stationY" "[I", .methodLink RX5 72 yX5_isSpot, .static yX5_isSpot, .initialized RX5, .code yX5_isSpot cX5_isSpot 2 (some .boolean), .methodLink RX5 68 yX5_in, .static yX5_in, .code yX5_in cX5_in 3 (some .boolean), .methodLink RX5 79 yX5_throwing, .instanceMethod yX5_throwing, .selects RX5 yX5_throwing yX5_throwing, .code yX5_throwing cX5_throwing 4 (some .boolean), .fieldLink RX5 65 "DaySimulateModel" "thrown" "I"] ++ wsX50)
def wsX5_area : List Cond := .code yX5_area cX5_area 4 (some .int) :: ([.fieldLink RX5 83 "DaySimulateModel" "areas" "I", .fieldLink RX5 23 "DaySimulateModel" "areaX" "[I", .fieldLink RX5 26 "DaySimulateModel" "areaY" "[I", .fieldLink RX5 29 "DaySimulateModel" "weight" "[I", .methodLink RX5 72 yX5_isSpot, .static yX5_isSpot, .initialized RX5, .code yX5_isSpot cX5_isSpot 2 (some .boolean), .methodLink RX5 68 yX5_in, .static yX5_in, .code yX5_in cX5_in 3 (some .boolean), .methodLink RX5 79 yX5_throwing, .instanceMethod yX5_throwing, .selects RX5 yX5_throwing yX5_throwing, .code yX5_throwing cX5_throwing 4 (some .boolean), .fieldLink RX5 65 "DaySimulateModel" "thrown" "I"] ++ wsX50)
def wsX5_at : List Cond := .code yX5_at cX5_at 6 (some .int) :: ([.fieldLink RX5 86 "DaySimulateModel" "units" "I", .fieldLink RX5 32 "DaySimulateModel" "stands" "[I"] ++ wsX50)
def wsX5_isFull : List Cond := .code yX5_isFull cX5_isFull 4 (some .boolean) :: ([.methodLink RX5 89 yX5_at, .instanceMethod yX5_at, .selects RX5 yX5_at yX5_at, .initialized RX5, .code yX5_at cX5_at 6 (some .int), .fieldLink RX5 86 "DaySimulateModel" "units" "I", .fieldLink RX5 32 "DaySimulateModel" "stands" "[I"] ++ wsX50)
def wsX5_unit : List Cond := .code yX5_unit cX5_unit 4 (some .int) :: ([.fieldLink RX5 76 "DaySimulateModel" "stations" "I", .fieldLink RX5 86 "DaySimulateModel" "units" "I", .fieldLink RX5 32 "DaySimulateModel" "stands" "[I", .methodLink RX5 68 yX5_in, .static yX5_in, .initialized RX5, .code yX5_in cX5_in 3 (some .boolean), .methodLink RX5 93 yX5_isFull, .instanceMethod yX5_isFull, .selects RX5 yX5_isFull yX5_isFull, .code yX5_isFull cX5_isFull 4 (some .boolean), .methodLink RX5 89 yX5_at, .instanceMethod yX5_at, .selects RX5 yX5_at yX5_at, .code yX5_at cX5_at 6 (some .int), .methodLink RX5 79 yX5_throwing, .instanceMethod yX5_throwing, .selects RX5 yX5_throwing yX5_throwing, .code yX5_throwing cX5_throwing 4 (some .boolean), .fieldLink RX5 65 "DaySimulateModel" "thrown" "I"] ++ wsX50)
def wsX5_change : List Cond := .code yX5_change cX5_change 5 none :: ([.fieldLink RX5 86 "DaySimulateModel" "units" "I", .fieldLink RX5 76 "DaySimulateModel" "stations" "I", .fieldLink RX5 32 "DaySimulateModel" "stands" "[I", .methodLink RX5 68 yX5_in, .static yX5_in, .initialized RX5, .code yX5_in cX5_in 3 (some .boolean), .methodLink RX5 89 yX5_at, .instanceMethod yX5_at, .selects RX5 yX5_at yX5_at, .code yX5_at cX5_at 6 (some .int), .methodLink RX5 79 yX5_throwing, .instanceMethod yX5_throwing, .selects RX5 yX5_throwing yX5_throwing, .code yX5_throwing cX5_throwing 4 (some .boolean), .fieldLink RX5 65 "DaySimulateModel" "thrown" "I"] ++ wsX50)
def wsX5_rules : List Cond := .code yX5_rules cX5_rules 3 none :: ([.fieldLink RX5 7 "DaySimulateModel" "pace" "I", .fieldLink RX5 13 "DaySimulateModel" "mark" "I", .methodLink RX5 68 yX5_in, .static yX5_in, .initialized RX5, .code yX5_in cX5_in 3 (some .boolean), .methodLink RX5 79 yX5_throwing, .instanceMethod yX5_throwing, .selects RX5 yX5_throwing yX5_throwing, .code yX5_throwing cX5_throwing 4 (some .boolean), .fieldLink RX5 65 "DaySimulateModel" "thrown" "I"] ++ wsX50)
def wsX5_mix : List Cond := .code yX5_mix cX5_mix 2 (some .int) :: ([.constant RX5 97 (-2048144789), .constant RX5 98 (-1028477387)])
def wsX5_areaOf : List Cond := .code yX5_areaOf cX5_areaOf 5 (some .int) :: ([.fieldLink RX5 83 "DaySimulateModel" "areas" "I", .fieldLink RX5 29 "DaySimulateModel" "weight" "[I"] ++ wsX50)
def wsX5_draw : List Cond := .code yX5_draw cX5_draw 8 none :: ([.fieldLink RX5 99 "DaySimulateModel" "calls" "I", .constant RX5 102 (1000003), .fieldLink RX5 35 "DaySimulateModel" "minute" "[I", .fieldLink RX5 41 "DaySimulateModel" "rank" "[I", .fieldLink RX5 44 "DaySimulateModel" "lasts" "[I", .fieldLink RX5 38 "DaySimulateModel" "place" "[I", .fieldLink RX5 47 "DaySimulateModel" "unit" "[I", .fieldLink RX5 50 "DaySimulateModel" "came" "[I", .fieldLink RX5 53 "DaySimulateModel" "way" "[I", .methodLink RX5 103 yX5_mix, .static yX5_mix, .initialized RX5, .code yX5_mix cX5_mix 2 (some .int), .constant RX5 97 (-2048144789), .constant RX5 98 (-1028477387), .methodLink RX5 107 yX5_areaOf, .instanceMethod yX5_areaOf, .selects RX5 yX5_areaOf yX5_areaOf, .code yX5_areaOf cX5_areaOf 5 (some .int), .fieldLink RX5 83 "DaySimulateModel" "areas" "I", .fieldLink RX5 29 "DaySimulateModel" "weight" "[I"] ++ wsX50)
def wsX5_size : List Cond := .code yX5_size cX5_size 1 (some .int) :: ([])
def wsX5_wayOf : List Cond := .code yX5_wayOf cX5_wayOf 4 (some .int) :: ([.fieldLink RX5 16 "DaySimulateModel" "stationX" "[I", .fieldLink RX5 23 "DaySimulateModel" "areaX" "[I", .fieldLink RX5 20 "DaySimulateModel" "stationY" "[I", .fieldLink RX5 26 "DaySimulateModel" "areaY" "[I", .fieldLink RX5 7 "DaySimulateModel" "pace" "I", .methodLink RX5 110 yX5_size, .static yX5_size, .initialized RX5, .code yX5_size cX5_size 1 (some .int)] ++ wsX50)
def wsX5_next : List Cond := .code yX5_next cX5_next 6 (some .int) :: ([.fieldLink RX5 99 "DaySimulateModel" "calls" "I", .fieldLink RX5 47 "DaySimulateModel" "unit" "[I", .fieldLink RX5 35 "DaySimulateModel" "minute" "[I", .fieldLink RX5 41 "DaySimulateModel" "rank" "[I"] ++ wsX50)
def wsX5_nearest : List Cond := .code yX5_nearest cX5_nearest 8 (some .int) :: ([.constant RX5 113 (100000000), .fieldLink RX5 86 "DaySimulateModel" "units" "I", .fieldLink RX5 32 "DaySimulateModel" "stands" "[I", .fieldLink RX5 56 "DaySimulateModel" "back" "[I", .methodLink RX5 114 yX5_wayOf, .instanceMethod yX5_wayOf, .selects RX5 yX5_wayOf yX5_wayOf, .initialized RX5, .code yX5_wayOf cX5_wayOf 4 (some .int), .fieldLink RX5 16 "DaySimulateModel" "stationX" "[I", .fieldLink RX5 23 "DaySimulateModel" "areaX" "[I", .fieldLink RX5 20 "DaySimulateModel" "stationY" "[I", .fieldLink RX5 26 "DaySimulateModel" "areaY" "[I", .fieldLink RX5 7 "DaySimulateModel" "pace" "I", .methodLink RX5 110 yX5_size, .static yX5_size, .code yX5_size cX5_size 1 (some .int)] ++ wsX50)
def wsX5_send : List Cond := .code yX5_send cX5_send 6 none :: ([.fieldLink RX5 47 "DaySimulateModel" "unit" "[I", .fieldLink RX5 53 "DaySimulateModel" "way" "[I", .fieldLink RX5 50 "DaySimulateModel" "came" "[I", .fieldLink RX5 56 "DaySimulateModel" "back" "[I", .fieldLink RX5 44 "DaySimulateModel" "lasts" "[I", .fieldLink RX5 59 "DaySimulateModel" "work" "[I", .fieldLink RX5 62 "DaySimulateModel" "busy" "[I"] ++ wsX50)
def wsX5_later : List Cond := .code yX5_later cX5_later 4 (some .int) :: ([.constant RX5 113 (100000000), .fieldLink RX5 99 "DaySimulateModel" "calls" "I", .fieldLink RX5 35 "DaySimulateModel" "minute" "[I", .fieldLink RX5 86 "DaySimulateModel" "units" "I", .fieldLink RX5 56 "DaySimulateModel" "back" "[I"] ++ wsX50)
def wsX5_play_r1 : List Cond := [Cond.fieldLink RX5 56 "DaySimulateModel" "back" "[I", Cond.fieldLink RX5 59 "DaySimulateModel" "work" "[I", Cond.fieldLink RX5 86 "DaySimulateModel" "units" "I", Cond.fieldLink RX5 32 "DaySimulateModel" "stands" "[I", Cond.fieldLink RX5 62 "DaySimulateModel" "busy" "[I", Cond.constant RX5 113 (100000000), Cond.fieldLink RX5 38 "DaySimulateModel" "place" "[I", Cond.fieldLink RX5 135 "DaySimulateModel" "missed" "I", Cond.methodLink RX5 118 yX5_draw, Cond.instanceMethod yX5_draw, Cond.selects RX5 yX5_draw yX5_draw, Cond.initialized RX5, Cond.code yX5_draw cX5_draw 8 none, Cond.fieldLink RX5 99 "DaySimulateModel" "calls" "I", Cond.constant RX5 102 (1000003), Cond.fieldLink RX5 35 "DaySimulateModel" "minute" "[I", Cond.fieldLink RX5 41 "DaySimulateModel" "rank" "[I", Cond.fieldLink RX5 44 "DaySimulateModel" "lasts" "[I", Cond.fieldLink RX5 47 "DaySimulateModel" "unit" "[I", Cond.fieldLink RX5 50 "DaySimulateModel" "came" "[I", Cond.fieldLink RX5 53 "DaySimulateModel" "way" "[I", Cond.methodLink RX5 103 yX5_mix, Cond.static yX5_mix, Cond.code yX5_mix cX5_mix 2 (some .int)]
def wsX5_play_r2 : List Cond := [Cond.constant RX5 97 (-2048144789), Cond.constant RX5 98 (-1028477387), Cond.methodLink RX5 107 yX5_areaOf, Cond.instanceMethod yX5_areaOf, Cond.selects RX5 yX5_areaOf yX5_areaOf, Cond.code yX5_areaOf cX5_areaOf 5 (some .int), Cond.fieldLink RX5 83 "DaySimulateModel" "areas" "I", Cond.fieldLink RX5 29 "DaySimulateModel" "weight" "[I", Cond.methodLink RX5 122 yX5_next, Cond.instanceMethod yX5_next, Cond.selects RX5 yX5_next yX5_next, Cond.code yX5_next cX5_next 6 (some .int), Cond.methodLink RX5 125 yX5_nearest, Cond.instanceMethod yX5_nearest, Cond.selects RX5 yX5_nearest yX5_nearest, Cond.code yX5_nearest cX5_nearest 8 (some .int), Cond.methodLink RX5 114 yX5_wayOf, Cond.instanceMethod yX5_wayOf, Cond.selects RX5 yX5_wayOf yX5_wayOf, Cond.code yX5_wayOf cX5_wayOf 4 (some .int), Cond.fieldLink RX5 16 "DaySimulateModel" "stationX" "[I", Cond.fieldLink RX5 23 "DaySimulateModel" "areaX" "[I", Cond.fieldLink RX5 20 "DaySimulateModel" "stationY" "[I", Cond.fieldLink RX5 26 "DaySimulateModel" "areaY" "[I"]
def wsX5_play_r3 : List Cond := [Cond.fieldLink RX5 7 "DaySimulateModel" "pace" "I", Cond.methodLink RX5 110 yX5_size, Cond.static yX5_size, Cond.code yX5_size cX5_size 1 (some .int), Cond.methodLink RX5 128 yX5_send, Cond.instanceMethod yX5_send, Cond.selects RX5 yX5_send yX5_send, Cond.code yX5_send cX5_send 6 none, Cond.methodLink RX5 132 yX5_later, Cond.instanceMethod yX5_later, Cond.selects RX5 yX5_later yX5_later, Cond.code yX5_later cX5_later 4 (some .int)]
def wsX5_play : List Cond := .code yX5_play cX5_play 9 none :: ((wsX5_play_r1 ++ (wsX5_play_r2 ++ wsX5_play_r3)) ++ wsX50)
def wsX5_forget : List Cond := .code yX5_forget cX5_forget 2 none :: ([.fieldLink RX5 99 "DaySimulateModel" "calls" "I", .fieldLink RX5 135 "DaySimulateModel" "missed" "I", .fieldLink RX5 59 "DaySimulateModel" "work" "[I"] ++ wsX50)
def wsX5_isLate : List Cond := .code yX5_isLate cX5_isLate 2 (some .boolean) :: ([.fieldLink RX5 47 "DaySimulateModel" "unit" "[I", .fieldLink RX5 50 "DaySimulateModel" "came" "[I", .fieldLink RX5 35 "DaySimulateModel" "minute" "[I", .fieldLink RX5 13 "DaySimulateModel" "mark" "I"] ++ wsX50)
def wsX5_late : List Cond := .code yX5_late cX5_late 3 (some .int) :: ([.fieldLink RX5 99 "DaySimulateModel" "calls" "I", .methodLink RX5 138 yX5_isLate, .instanceMethod yX5_isLate, .selects RX5 yX5_isLate yX5_isLate, .initialized RX5, .code yX5_isLate cX5_isLate 2 (some .boolean), .fieldLink RX5 47 "DaySimulateModel" "unit" "[I", .fieldLink RX5 50 "DaySimulateModel" "came" "[I", .fieldLink RX5 35 "DaySimulateModel" "minute" "[I", .fieldLink RX5 13 "DaySimulateModel" "mark" "I"] ++ wsX50)
def wsX5_isDay : List Cond := .code yX5_isDay cX5_isDay 1 (some .boolean) :: ([.methodLink RX5 68 yX5_in, .static yX5_in, .initialized RX5, .code yX5_in cX5_in 3 (some .boolean)])
def wsX5_run_r1 : List Cond := [Cond.fieldLink RX5 83 "DaySimulateModel" "areas" "I", Cond.methodLink RX5 68 yX5_in, Cond.static yX5_in, Cond.initialized RX5, Cond.code yX5_in cX5_in 3 (some .boolean), Cond.methodLink RX5 141 yX5_isDay, Cond.static yX5_isDay, Cond.code yX5_isDay cX5_isDay 1 (some .boolean), Cond.methodLink RX5 79 yX5_throwing, Cond.instanceMethod yX5_throwing, Cond.selects RX5 yX5_throwing yX5_throwing, Cond.code yX5_throwing cX5_throwing 4 (some .boolean), Cond.fieldLink RX5 65 "DaySimulateModel" "thrown" "I", Cond.methodLink RX5 144 yX5_play, Cond.instanceMethod yX5_play, Cond.selects RX5 yX5_play yX5_play, Cond.code yX5_play cX5_play 9 none, Cond.fieldLink RX5 56 "DaySimulateModel" "back" "[I", Cond.fieldLink RX5 59 "DaySimulateModel" "work" "[I", Cond.fieldLink RX5 86 "DaySimulateModel" "units" "I", Cond.fieldLink RX5 32 "DaySimulateModel" "stands" "[I", Cond.fieldLink RX5 62 "DaySimulateModel" "busy" "[I", Cond.constant RX5 113 (100000000), Cond.fieldLink RX5 38 "DaySimulateModel" "place" "[I"]
def wsX5_run_r2 : List Cond := [Cond.fieldLink RX5 135 "DaySimulateModel" "missed" "I", Cond.methodLink RX5 118 yX5_draw, Cond.instanceMethod yX5_draw, Cond.selects RX5 yX5_draw yX5_draw, Cond.code yX5_draw cX5_draw 8 none, Cond.fieldLink RX5 99 "DaySimulateModel" "calls" "I", Cond.constant RX5 102 (1000003), Cond.fieldLink RX5 35 "DaySimulateModel" "minute" "[I", Cond.fieldLink RX5 41 "DaySimulateModel" "rank" "[I", Cond.fieldLink RX5 44 "DaySimulateModel" "lasts" "[I", Cond.fieldLink RX5 47 "DaySimulateModel" "unit" "[I", Cond.fieldLink RX5 50 "DaySimulateModel" "came" "[I", Cond.fieldLink RX5 53 "DaySimulateModel" "way" "[I", Cond.methodLink RX5 103 yX5_mix, Cond.static yX5_mix, Cond.code yX5_mix cX5_mix 2 (some .int), Cond.constant RX5 97 (-2048144789), Cond.constant RX5 98 (-1028477387), Cond.methodLink RX5 107 yX5_areaOf, Cond.instanceMethod yX5_areaOf, Cond.selects RX5 yX5_areaOf yX5_areaOf, Cond.code yX5_areaOf cX5_areaOf 5 (some .int), Cond.fieldLink RX5 29 "DaySimulateModel" "weight" "[I", Cond.methodLink RX5 122 yX5_next]
def wsX5_run_r3 : List Cond := [Cond.instanceMethod yX5_next, Cond.selects RX5 yX5_next yX5_next, Cond.code yX5_next cX5_next 6 (some .int), Cond.methodLink RX5 125 yX5_nearest, Cond.instanceMethod yX5_nearest, Cond.selects RX5 yX5_nearest yX5_nearest, Cond.code yX5_nearest cX5_nearest 8 (some .int), Cond.methodLink RX5 114 yX5_wayOf, Cond.instanceMethod yX5_wayOf, Cond.selects RX5 yX5_wayOf yX5_wayOf, Cond.code yX5_wayOf cX5_wayOf 4 (some .int), Cond.fieldLink RX5 16 "DaySimulateModel" "stationX" "[I", Cond.fieldLink RX5 23 "DaySimulateModel" "areaX" "[I", Cond.fieldLink RX5 20 "DaySimulateModel" "stationY" "[I", Cond.fieldLink RX5 26 "DaySimulateModel" "areaY" "[I", Cond.fieldLink RX5 7 "DaySimulateModel" "pace" "I", Cond.methodLink RX5 110 yX5_size, Cond.static yX5_size, Cond.code yX5_size cX5_size 1 (some .int), Cond.methodLink RX5 128 yX5_send, Cond.instanceMethod yX5_send, Cond.selects RX5 yX5_send yX5_send, Cond.code yX5_send cX5_send 6 none, Cond.methodLink RX5 132 yX5_later]
def wsX5_run_r4 : List Cond := [Cond.instanceMethod yX5_later, Cond.selects RX5 yX5_later yX5_later, Cond.code yX5_later cX5_later 4 (some .int), Cond.methodLink RX5 147 yX5_late, Cond.instanceMethod yX5_late, Cond.selects RX5 yX5_late yX5_late, Cond.code yX5_late cX5_late 3 (some .int), Cond.methodLink RX5 138 yX5_isLate, Cond.instanceMethod yX5_isLate, Cond.selects RX5 yX5_isLate yX5_isLate, Cond.code yX5_isLate cX5_isLate 2 (some .boolean), Cond.fieldLink RX5 13 "DaySimulateModel" "mark" "I"]
def wsX5_run : List Cond := .code yX5_run cX5_run 5 (some .int) :: ((wsX5_run_r1 ++ (wsX5_run_r2 ++ (wsX5_run_r3 ++ wsX5_run_r4))) ++ wsX50)
def wsX5_reason : List Cond := .code yX5_reason cX5_reason 2 (some .int) :: ([.fieldLink RX5 47 "DaySimulateModel" "unit" "[I", .fieldLink RX5 53 "DaySimulateModel" "way" "[I", .fieldLink RX5 13 "DaySimulateModel" "mark" "I", .methodLink RX5 138 yX5_isLate, .instanceMethod yX5_isLate, .selects RX5 yX5_isLate yX5_isLate, .initialized RX5, .code yX5_isLate cX5_isLate 2 (some .boolean), .fieldLink RX5 50 "DaySimulateModel" "came" "[I", .fieldLink RX5 35 "DaySimulateModel" "minute" "[I"] ++ wsX50)
def wsX5_call_r1 : List Cond := [Cond.fieldLink RX5 99 "DaySimulateModel" "calls" "I", Cond.fieldLink RX5 35 "DaySimulateModel" "minute" "[I", Cond.fieldLink RX5 38 "DaySimulateModel" "place" "[I", Cond.fieldLink RX5 41 "DaySimulateModel" "rank" "[I", Cond.fieldLink RX5 47 "DaySimulateModel" "unit" "[I", Cond.fieldLink RX5 50 "DaySimulateModel" "came" "[I", Cond.methodLink RX5 68 yX5_in, Cond.static yX5_in, Cond.initialized RX5, Cond.code yX5_in cX5_in 3 (some .boolean), Cond.methodLink RX5 79 yX5_throwing, Cond.instanceMethod yX5_throwing, Cond.selects RX5 yX5_throwing yX5_throwing, Cond.code yX5_throwing cX5_throwing 4 (some .boolean), Cond.fieldLink RX5 65 "DaySimulateModel" "thrown" "I", Cond.methodLink RX5 151 yX5_reason, Cond.instanceMethod yX5_reason, Cond.selects RX5 yX5_reason yX5_reason, Cond.code yX5_reason cX5_reason 2 (some .int), Cond.fieldLink RX5 53 "DaySimulateModel" "way" "[I", Cond.fieldLink RX5 13 "DaySimulateModel" "mark" "I", Cond.methodLink RX5 138 yX5_isLate, Cond.instanceMethod yX5_isLate, Cond.selects RX5 yX5_isLate yX5_isLate]
def wsX5_call_r2 : List Cond := [Cond.code yX5_isLate cX5_isLate 2 (some .boolean)]
def wsX5_call : List Cond := .code yX5_call cX5_call 3 (some .int) :: ((wsX5_call_r1 ++ wsX5_call_r2) ++ wsX50)
def wsX5_common : List Cond := .code yX5_common cX5_common 10 (some .long) :: ([])
def wsX5_share_r1 : List Cond := [Cond.fieldLink RX5 99 "DaySimulateModel" "calls" "I", Cond.methodLink RX5 68 yX5_in, Cond.static yX5_in, Cond.initialized RX5, Cond.code yX5_in cX5_in 3 (some .boolean), Cond.methodLink RX5 79 yX5_throwing, Cond.instanceMethod yX5_throwing, Cond.selects RX5 yX5_throwing yX5_throwing, Cond.code yX5_throwing cX5_throwing 4 (some .boolean), Cond.fieldLink RX5 65 "DaySimulateModel" "thrown" "I", Cond.methodLink RX5 147 yX5_late, Cond.instanceMethod yX5_late, Cond.selects RX5 yX5_late yX5_late, Cond.code yX5_late cX5_late 3 (some .int), Cond.methodLink RX5 138 yX5_isLate, Cond.instanceMethod yX5_isLate, Cond.selects RX5 yX5_isLate yX5_isLate, Cond.code yX5_isLate cX5_isLate 2 (some .boolean), Cond.fieldLink RX5 47 "DaySimulateModel" "unit" "[I", Cond.fieldLink RX5 50 "DaySimulateModel" "came" "[I", Cond.fieldLink RX5 35 "DaySimulateModel" "minute" "[I", Cond.fieldLink RX5 13 "DaySimulateModel" "mark" "I", Cond.methodLink RX5 154 yX5_common, Cond.static yX5_common]
def wsX5_share_r2 : List Cond := [Cond.code yX5_common cX5_common 10 (some .long)]
def wsX5_share : List Cond := .code yX5_share cX5_share 3 (some .int) :: ((wsX5_share_r1 ++ wsX5_share_r2) ++ wsX50)
def wsX5_mean : List Cond := .code yX5_mean cX5_mean 4 (some .int) :: ([.fieldLink RX5 99 "DaySimulateModel" "calls" "I", .fieldLink RX5 47 "DaySimulateModel" "unit" "[I", .fieldLink RX5 50 "DaySimulateModel" "came" "[I", .fieldLink RX5 35 "DaySimulateModel" "minute" "[I", .constantLong RX5 158 (1000), .methodLink RX5 79 yX5_throwing, .instanceMethod yX5_throwing, .selects RX5 yX5_throwing yX5_throwing, .initialized RX5, .code yX5_throwing cX5_throwing 4 (some .boolean), .fieldLink RX5 65 "DaySimulateModel" "thrown" "I"] ++ wsX50)
def wsX5_missed : List Cond := .code yX5_missed cX5_missed 1 (some .int) :: ([.fieldLink RX5 65 "DaySimulateModel" "thrown" "I", .fieldLink RX5 135 "DaySimulateModel" "missed" "I"] ++ wsX50)
def wsX5_work : List Cond := .code yX5_work cX5_work 2 (some .int) :: ([.fieldLink RX5 86 "DaySimulateModel" "units" "I", .fieldLink RX5 59 "DaySimulateModel" "work" "[I", .methodLink RX5 68 yX5_in, .static yX5_in, .initialized RX5, .code yX5_in cX5_in 3 (some .boolean), .methodLink RX5 79 yX5_throwing, .instanceMethod yX5_throwing, .selects RX5 yX5_throwing yX5_throwing, .code yX5_throwing cX5_throwing 4 (some .boolean), .fieldLink RX5 65 "DaySimulateModel" "thrown" "I"] ++ wsX50)
def wsX5_worst : List Cond := .code yX5_worst cX5_worst 6 (some .int) :: ([.fieldLink RX5 65 "DaySimulateModel" "thrown" "I", .fieldLink RX5 99 "DaySimulateModel" "calls" "I", .fieldLink RX5 35 "DaySimulateModel" "minute" "[I", .methodLink RX5 138 yX5_isLate, .instanceMethod yX5_isLate, .selects RX5 yX5_isLate yX5_isLate, .initialized RX5, .code yX5_isLate cX5_isLate 2 (some .boolean), .fieldLink RX5 47 "DaySimulateModel" "unit" "[I", .fieldLink RX5 50 "DaySimulateModel" "came" "[I", .fieldLink RX5 13 "DaySimulateModel" "mark" "I"] ++ wsX50)
def wsX5_arrived : List Cond := .code yX5_arrived cX5_arrived 4 (some .int) :: ([.fieldLink RX5 99 "DaySimulateModel" "calls" "I", .fieldLink RX5 47 "DaySimulateModel" "unit" "[I", .fieldLink RX5 50 "DaySimulateModel" "came" "[I", .methodLink RX5 68 yX5_in, .static yX5_in, .initialized RX5, .code yX5_in cX5_in 3 (some .boolean), .methodLink RX5 79 yX5_throwing, .instanceMethod yX5_throwing, .selects RX5 yX5_throwing yX5_throwing, .code yX5_throwing cX5_throwing 4 (some .boolean), .fieldLink RX5 65 "DaySimulateModel" "thrown" "I"] ++ wsX50)
def wsX5_unlucky_r1 : List Cond := [Cond.fieldLink RX5 83 "DaySimulateModel" "areas" "I", Cond.methodLink RX5 68 yX5_in, Cond.static yX5_in, Cond.initialized RX5, Cond.code yX5_in cX5_in 3 (some .boolean), Cond.methodLink RX5 141 yX5_isDay, Cond.static yX5_isDay, Cond.code yX5_isDay cX5_isDay 1 (some .boolean), Cond.methodLink RX5 79 yX5_throwing, Cond.instanceMethod yX5_throwing, Cond.selects RX5 yX5_throwing yX5_throwing, Cond.code yX5_throwing cX5_throwing 4 (some .boolean), Cond.fieldLink RX5 65 "DaySimulateModel" "thrown" "I", Cond.methodLink RX5 144 yX5_play, Cond.instanceMethod yX5_play, Cond.selects RX5 yX5_play yX5_play, Cond.code yX5_play cX5_play 9 none, Cond.fieldLink RX5 56 "DaySimulateModel" "back" "[I", Cond.fieldLink RX5 59 "DaySimulateModel" "work" "[I", Cond.fieldLink RX5 86 "DaySimulateModel" "units" "I", Cond.fieldLink RX5 32 "DaySimulateModel" "stands" "[I", Cond.fieldLink RX5 62 "DaySimulateModel" "busy" "[I", Cond.constant RX5 113 (100000000), Cond.fieldLink RX5 38 "DaySimulateModel" "place" "[I"]
def wsX5_unlucky_r2 : List Cond := [Cond.fieldLink RX5 135 "DaySimulateModel" "missed" "I", Cond.methodLink RX5 118 yX5_draw, Cond.instanceMethod yX5_draw, Cond.selects RX5 yX5_draw yX5_draw, Cond.code yX5_draw cX5_draw 8 none, Cond.fieldLink RX5 99 "DaySimulateModel" "calls" "I", Cond.constant RX5 102 (1000003), Cond.fieldLink RX5 35 "DaySimulateModel" "minute" "[I", Cond.fieldLink RX5 41 "DaySimulateModel" "rank" "[I", Cond.fieldLink RX5 44 "DaySimulateModel" "lasts" "[I", Cond.fieldLink RX5 47 "DaySimulateModel" "unit" "[I", Cond.fieldLink RX5 50 "DaySimulateModel" "came" "[I", Cond.fieldLink RX5 53 "DaySimulateModel" "way" "[I", Cond.methodLink RX5 103 yX5_mix, Cond.static yX5_mix, Cond.code yX5_mix cX5_mix 2 (some .int), Cond.constant RX5 97 (-2048144789), Cond.constant RX5 98 (-1028477387), Cond.methodLink RX5 107 yX5_areaOf, Cond.instanceMethod yX5_areaOf, Cond.selects RX5 yX5_areaOf yX5_areaOf, Cond.code yX5_areaOf cX5_areaOf 5 (some .int), Cond.fieldLink RX5 29 "DaySimulateModel" "weight" "[I", Cond.methodLink RX5 122 yX5_next]
def wsX5_unlucky_r3 : List Cond := [Cond.instanceMethod yX5_next, Cond.selects RX5 yX5_next yX5_next, Cond.code yX5_next cX5_next 6 (some .int), Cond.methodLink RX5 125 yX5_nearest, Cond.instanceMethod yX5_nearest, Cond.selects RX5 yX5_nearest yX5_nearest, Cond.code yX5_nearest cX5_nearest 8 (some .int), Cond.methodLink RX5 114 yX5_wayOf, Cond.instanceMethod yX5_wayOf, Cond.selects RX5 yX5_wayOf yX5_wayOf, Cond.code yX5_wayOf cX5_wayOf 4 (some .int), Cond.fieldLink RX5 16 "DaySimulateModel" "stationX" "[I", Cond.fieldLink RX5 23 "DaySimulateModel" "areaX" "[I", Cond.fieldLink RX5 20 "DaySimulateModel" "stationY" "[I", Cond.fieldLink RX5 26 "DaySimulateModel" "areaY" "[I", Cond.fieldLink RX5 7 "DaySimulateModel" "pace" "I", Cond.methodLink RX5 110 yX5_size, Cond.static yX5_size, Cond.code yX5_size cX5_size 1 (some .int), Cond.methodLink RX5 128 yX5_send, Cond.instanceMethod yX5_send, Cond.selects RX5 yX5_send yX5_send, Cond.code yX5_send cX5_send 6 none, Cond.methodLink RX5 132 yX5_later]
def wsX5_unlucky_r4 : List Cond := [Cond.instanceMethod yX5_later, Cond.selects RX5 yX5_later yX5_later, Cond.code yX5_later cX5_later 4 (some .int), Cond.methodLink RX5 147 yX5_late, Cond.instanceMethod yX5_late, Cond.selects RX5 yX5_late yX5_late, Cond.code yX5_late cX5_late 3 (some .int), Cond.methodLink RX5 138 yX5_isLate, Cond.instanceMethod yX5_isLate, Cond.selects RX5 yX5_isLate yX5_isLate, Cond.code yX5_isLate cX5_isLate 2 (some .boolean), Cond.fieldLink RX5 13 "DaySimulateModel" "mark" "I", Cond.methodLink RX5 160 yX5_forget, Cond.instanceMethod yX5_forget, Cond.selects RX5 yX5_forget yX5_forget, Cond.code yX5_forget cX5_forget 2 none]
def wsX5_unlucky : List Cond := .code yX5_unlucky cX5_unlucky 10 (some .int) :: ((wsX5_unlucky_r1 ++ (wsX5_unlucky_r2 ++ (wsX5_unlucky_r3 ++ wsX5_unlucky_r4))) ++ wsX50)
def wsX5_tail : List Cond := .code yX5_tail cX5_tail 7 (some .long) :: ([])
def wsX5_compare_r1 : List Cond := [Cond.fieldLink RX5 83 "DaySimulateModel" "areas" "I", Cond.methodLink RX5 68 yX5_in, Cond.static yX5_in, Cond.initialized RX5, Cond.code yX5_in cX5_in 3 (some .boolean), Cond.methodLink RX5 141 yX5_isDay, Cond.static yX5_isDay, Cond.code yX5_isDay cX5_isDay 1 (some .boolean), Cond.methodLink RX5 79 yX5_throwing, Cond.instanceMethod yX5_throwing, Cond.selects RX5 yX5_throwing yX5_throwing, Cond.code yX5_throwing cX5_throwing 4 (some .boolean), Cond.fieldLink RX5 65 "DaySimulateModel" "thrown" "I", Cond.methodLink RX5 144 yX5_play, Cond.instanceMethod yX5_play, Cond.selects RX5 yX5_play yX5_play, Cond.code yX5_play cX5_play 9 none, Cond.fieldLink RX5 56 "DaySimulateModel" "back" "[I", Cond.fieldLink RX5 59 "DaySimulateModel" "work" "[I", Cond.fieldLink RX5 86 "DaySimulateModel" "units" "I", Cond.fieldLink RX5 32 "DaySimulateModel" "stands" "[I", Cond.fieldLink RX5 62 "DaySimulateModel" "busy" "[I", Cond.constant RX5 113 (100000000), Cond.fieldLink RX5 38 "DaySimulateModel" "place" "[I"]
def wsX5_compare_r2 : List Cond := [Cond.fieldLink RX5 135 "DaySimulateModel" "missed" "I", Cond.methodLink RX5 118 yX5_draw, Cond.instanceMethod yX5_draw, Cond.selects RX5 yX5_draw yX5_draw, Cond.code yX5_draw cX5_draw 8 none, Cond.fieldLink RX5 99 "DaySimulateModel" "calls" "I", Cond.constant RX5 102 (1000003), Cond.fieldLink RX5 35 "DaySimulateModel" "minute" "[I", Cond.fieldLink RX5 41 "DaySimulateModel" "rank" "[I", Cond.fieldLink RX5 44 "DaySimulateModel" "lasts" "[I", Cond.fieldLink RX5 47 "DaySimulateModel" "unit" "[I", Cond.fieldLink RX5 50 "DaySimulateModel" "came" "[I", Cond.fieldLink RX5 53 "DaySimulateModel" "way" "[I", Cond.methodLink RX5 103 yX5_mix, Cond.static yX5_mix, Cond.code yX5_mix cX5_mix 2 (some .int), Cond.constant RX5 97 (-2048144789), Cond.constant RX5 98 (-1028477387), Cond.methodLink RX5 107 yX5_areaOf, Cond.instanceMethod yX5_areaOf, Cond.selects RX5 yX5_areaOf yX5_areaOf, Cond.code yX5_areaOf cX5_areaOf 5 (some .int), Cond.fieldLink RX5 29 "DaySimulateModel" "weight" "[I", Cond.methodLink RX5 122 yX5_next]
def wsX5_compare_r3 : List Cond := [Cond.instanceMethod yX5_next, Cond.selects RX5 yX5_next yX5_next, Cond.code yX5_next cX5_next 6 (some .int), Cond.methodLink RX5 125 yX5_nearest, Cond.instanceMethod yX5_nearest, Cond.selects RX5 yX5_nearest yX5_nearest, Cond.code yX5_nearest cX5_nearest 8 (some .int), Cond.methodLink RX5 114 yX5_wayOf, Cond.instanceMethod yX5_wayOf, Cond.selects RX5 yX5_wayOf yX5_wayOf, Cond.code yX5_wayOf cX5_wayOf 4 (some .int), Cond.fieldLink RX5 16 "DaySimulateModel" "stationX" "[I", Cond.fieldLink RX5 23 "DaySimulateModel" "areaX" "[I", Cond.fieldLink RX5 20 "DaySimulateModel" "stationY" "[I", Cond.fieldLink RX5 26 "DaySimulateModel" "areaY" "[I", Cond.fieldLink RX5 7 "DaySimulateModel" "pace" "I", Cond.methodLink RX5 110 yX5_size, Cond.static yX5_size, Cond.code yX5_size cX5_size 1 (some .int), Cond.methodLink RX5 128 yX5_send, Cond.instanceMethod yX5_send, Cond.selects RX5 yX5_send yX5_send, Cond.code yX5_send cX5_send 6 none, Cond.methodLink RX5 132 yX5_later]
def wsX5_compare_r4 : List Cond := [Cond.instanceMethod yX5_later, Cond.selects RX5 yX5_later yX5_later, Cond.code yX5_later cX5_later 4 (some .int), Cond.methodLink RX5 147 yX5_late, Cond.instanceMethod yX5_late, Cond.selects RX5 yX5_late yX5_late, Cond.code yX5_late cX5_late 3 (some .int), Cond.methodLink RX5 138 yX5_isLate, Cond.instanceMethod yX5_isLate, Cond.selects RX5 yX5_isLate yX5_isLate, Cond.code yX5_isLate cX5_isLate 2 (some .boolean), Cond.fieldLink RX5 13 "DaySimulateModel" "mark" "I", Cond.methodLink RX5 160 yX5_forget, Cond.instanceMethod yX5_forget, Cond.selects RX5 yX5_forget yX5_forget, Cond.code yX5_forget cX5_forget 2 none, Cond.methodLink RX5 163 yX5_tail, Cond.static yX5_tail, Cond.code yX5_tail cX5_tail 7 (some .long), Cond.methodLink RX5 154 yX5_common, Cond.static yX5_common, Cond.code yX5_common cX5_common 10 (some .long)]
def wsX5_compare : List Cond := .code yX5_compare cX5_compare 15 (some .int) :: ((wsX5_compare_r1 ++ (wsX5_compare_r2 ++ (wsX5_compare_r3 ++ wsX5_compare_r4))) ++ wsX50)
def wsJ9_abs_0f7a4 : List Cond := .code yJ9_abs_0f7a4 cJ9_abs_0f7a4 1 (some .int) :: ([])
def wsJ9_max_7cf53 : List Cond := .code yJ9_max_7cf53 cJ9_max_7cf53 2 (some .int) :: ([])
def wsJ9_min_7cf53 : List Cond := .code yJ9_min_7cf53 cJ9_min_7cf53 2 (some .int) :: ([])
def wsL_station_r1 : List Cond := [Cond.classLink RL 13 "java/lang/IndexOutOfBoundsException", Cond.classLink RL 15 "java/lang/UnsupportedOperationException", Cond.methodLink RL 7 yX4_station, Cond.instanceMethod yX4_station, Cond.selects RX4 yX4_station yX4_station, Cond.initialized RX4, Cond.code yX4_station cX4_station 3 (some .int), Cond.fieldLink RX4 14 "DaySimulate" "town" "LDaySimulate$Town;", Cond.fieldLink RX4 47 "DaySimulate$Town" "stations" "I", Cond.methodLink RX4 39 yX4_isPlace, Cond.static yX4_isPlace, Cond.code yX4_isPlace cX4_isPlace 2 (some .boolean), Cond.methodLink RX4 68 yX4_isBelow, Cond.static yX4_isBelow, Cond.code yX4_isBelow cX4_isBelow 2 (some .boolean), Cond.methodLink RX4 43 yX4_needRange, Cond.static yX4_needRange, Cond.code yX4_needRange cX4_needRange 1 none, Cond.classLink RX4 197 "java/lang/IndexOutOfBoundsException", Cond.initialized "java/lang/IndexOutOfBoundsException", Cond.methodLink RX4 50 yX4_needRoom, Cond.static yX4_needRoom, Cond.code yX4_needRoom cX4_needRoom 1 none, Cond.classLink RX4 207 "java/lang/UnsupportedOperationException"]
def wsL_station_r2 : List Cond := [Cond.initialized "java/lang/UnsupportedOperationException", Cond.methodLink RX4 53 yX3_addStation, Cond.instanceMethod yX3_addStation, Cond.selects RX3 yX3_addStation yX3_addStation, Cond.initialized RX3, Cond.code yX3_addStation cX3_addStation 3 (some .int), Cond.fieldLink RX3 9 "DaySimulate$Town" "stationX" "[I", Cond.fieldLink RX3 27 "DaySimulate$Town" "stations" "I", Cond.fieldLink RX3 15 "DaySimulate$Town" "stationY" "[I"]
def wsL_station : List Cond := .codeWith yL_station cL_station 5 (some .int) [(0, 10, 13, 13), (0, 10, 17, 15)] :: ((wsL_station_r1 ++ wsL_station_r2) ++ wsX40 ++ wsX30 ++ (vx_atS RX4 201 "java/lang/IndexOutOfBoundsException" ["java/lang/RuntimeException", "java/lang/Exception"]).filter goodWord ++ (vx_atS RX4 211 "java/lang/UnsupportedOperationException" ["java/lang/RuntimeException", "java/lang/Exception"]).filter goodWord)
def wsL_area_r1 : List Cond := [Cond.classLink RL 13 "java/lang/IndexOutOfBoundsException", Cond.classLink RL 15 "java/lang/UnsupportedOperationException", Cond.methodLink RL 17 yX4_area, Cond.instanceMethod yX4_area, Cond.selects RX4 yX4_area yX4_area, Cond.initialized RX4, Cond.code yX4_area cX4_area 4 (some .int), Cond.fieldLink RX4 14 "DaySimulate" "town" "LDaySimulate$Town;", Cond.fieldLink RX4 61 "DaySimulate$Town" "areas" "I", Cond.methodLink RX4 39 yX4_isPlace, Cond.static yX4_isPlace, Cond.code yX4_isPlace cX4_isPlace 2 (some .boolean), Cond.methodLink RX4 68 yX4_isBelow, Cond.static yX4_isBelow, Cond.code yX4_isBelow cX4_isBelow 2 (some .boolean), Cond.methodLink RX4 57 yX4_isWithin, Cond.static yX4_isWithin, Cond.code yX4_isWithin cX4_isWithin 3 (some .boolean), Cond.methodLink RX4 43 yX4_needRange, Cond.static yX4_needRange, Cond.code yX4_needRange cX4_needRange 1 none, Cond.classLink RX4 197 "java/lang/IndexOutOfBoundsException", Cond.initialized "java/lang/IndexOutOfBoundsException", Cond.methodLink RX4 50 yX4_needRoom]
def wsL_area_r2 : List Cond := [Cond.static yX4_needRoom, Cond.code yX4_needRoom cX4_needRoom 1 none, Cond.classLink RX4 207 "java/lang/UnsupportedOperationException", Cond.initialized "java/lang/UnsupportedOperationException", Cond.methodLink RX4 64 yX3_addArea, Cond.instanceMethod yX3_addArea, Cond.selects RX3 yX3_addArea yX3_addArea, Cond.initialized RX3, Cond.code yX3_addArea cX3_addArea 4 (some .int), Cond.fieldLink RX3 18 "DaySimulate$Town" "areaX" "[I", Cond.fieldLink RX3 31 "DaySimulate$Town" "areas" "I", Cond.fieldLink RX3 21 "DaySimulate$Town" "areaY" "[I", Cond.fieldLink RX3 24 "DaySimulate$Town" "weight" "[I", Cond.fieldLink RX3 34 "DaySimulate$Town" "weightSum" "I"]
def wsL_area : List Cond := .codeWith yL_area cL_area 6 (some .int) [(0, 12, 15, 13), (0, 12, 19, 15)] :: ((wsL_area_r1 ++ wsL_area_r2) ++ wsX40 ++ wsX30 ++ (vx_atS RX4 201 "java/lang/IndexOutOfBoundsException" ["java/lang/RuntimeException", "java/lang/Exception"]).filter goodWord ++ (vx_atS RX4 211 "java/lang/UnsupportedOperationException" ["java/lang/RuntimeException", "java/lang/Exception"]).filter goodWord)
def wsL_unit_r1 : List Cond := [Cond.classLink RL 25 "java/lang/IllegalArgumentException", Cond.classLink RL 27 "java/lang/IllegalStateException", Cond.classLink RL 15 "java/lang/UnsupportedOperationException", Cond.methodLink RL 21 yX4_unit, Cond.instanceMethod yX4_unit, Cond.selects RX4 yX4_unit yX4_unit, Cond.initialized RX4, Cond.code yX4_unit cX4_unit 2 (some .int), Cond.fieldLink RX4 14 "DaySimulate" "town" "LDaySimulate$Town;", Cond.fieldLink RX4 47 "DaySimulate$Town" "stations" "I", Cond.fieldLink RX4 21 "DaySimulate" "fleet" "LDaySimulate$Fleet;", Cond.fieldLink RX4 81 "DaySimulate$Fleet" "units" "I", Cond.methodLink RX4 68 yX4_isBelow, Cond.static yX4_isBelow, Cond.code yX4_isBelow cX4_isBelow 2 (some .boolean), Cond.methodLink RX4 71 yX4_needKnown, Cond.static yX4_needKnown, Cond.code yX4_needKnown cX4_needKnown 1 none, Cond.classLink RX4 127 "java/lang/IllegalArgumentException", Cond.initialized "java/lang/IllegalArgumentException", Cond.methodLink RX4 74 yX1_hasRoomInAllVariants, Cond.instanceMethod yX1_hasRoomInAllVariants, Cond.selects RX1 yX1_hasRoomInAllVariants yX1_hasRoomInAllVariants, Cond.initialized RX1]
def wsL_unit_r2 : List Cond := [Cond.code yX1_hasRoomInAllVariants cX1_hasRoomInAllVariants 3 (some .boolean), Cond.methodLink RX1 20 yX1_countOthers, Cond.instanceMethod yX1_countOthers, Cond.selects RX1 yX1_countOthers yX1_countOthers, Cond.code yX1_countOthers cX1_countOthers 6 (some .int), Cond.fieldLink RX1 16 "DaySimulate$Fleet" "units" "I", Cond.fieldLink RX1 11 "DaySimulate$Fleet" "stationOf" "[[I", Cond.methodLink RX4 78 yX4_needState, Cond.static yX4_needState, Cond.code yX4_needState cX4_needState 1 none, Cond.classLink RX4 202 "java/lang/IllegalStateException", Cond.initialized "java/lang/IllegalStateException", Cond.methodLink RX4 50 yX4_needRoom, Cond.static yX4_needRoom, Cond.code yX4_needRoom cX4_needRoom 1 none, Cond.classLink RX4 207 "java/lang/UnsupportedOperationException", Cond.initialized "java/lang/UnsupportedOperationException", Cond.methodLink RX4 84 yX1_addUnit, Cond.instanceMethod yX1_addUnit, Cond.selects RX1 yX1_addUnit yX1_addUnit, Cond.code yX1_addUnit cX1_addUnit 3 (some .int)]
def wsL_unit : List Cond := .codeWith yL_unit cL_unit 4 (some .int) [(0, 9, 12, 25), (0, 9, 15, 27), (0, 9, 18, 15)] :: ((wsL_unit_r1 ++ wsL_unit_r2) ++ wsX40 ++ wsX30 ++ wsX10 ++ (vx_atS RX4 131 "java/lang/IllegalArgumentException" ["java/lang/RuntimeException", "java/lang/Exception"]).filter goodWord ++ (vx_atS RX4 206 "java/lang/IllegalStateException" ["java/lang/RuntimeException", "java/lang/Exception"]).filter goodWord ++ (vx_atS RX4 211 "java/lang/UnsupportedOperationException" ["java/lang/RuntimeException", "java/lang/Exception"]).filter goodWord)
def wsL_change_r1 : List Cond := [Cond.classLink RL 25 "java/lang/IllegalArgumentException", Cond.classLink RL 27 "java/lang/IllegalStateException", Cond.methodLink RL 29 yX4_change, Cond.instanceMethod yX4_change, Cond.selects RX4 yX4_change yX4_change, Cond.initialized RX4, Cond.code yX4_change cX4_change 4 none, Cond.fieldLink RX4 21 "DaySimulate" "fleet" "LDaySimulate$Fleet;", Cond.fieldLink RX4 81 "DaySimulate$Fleet" "units" "I", Cond.fieldLink RX4 14 "DaySimulate" "town" "LDaySimulate$Town;", Cond.fieldLink RX4 47 "DaySimulate$Town" "stations" "I", Cond.fieldLink RX4 91 "DaySimulate$Fleet" "stationOf" "[[I", Cond.methodLink RX4 57 yX4_isWithin, Cond.static yX4_isWithin, Cond.code yX4_isWithin cX4_isWithin 3 (some .boolean), Cond.methodLink RX4 68 yX4_isBelow, Cond.static yX4_isBelow, Cond.code yX4_isBelow cX4_isBelow 2 (some .boolean), Cond.methodLink RX4 71 yX4_needKnown, Cond.static yX4_needKnown, Cond.code yX4_needKnown cX4_needKnown 1 none, Cond.classLink RX4 127 "java/lang/IllegalArgumentException", Cond.initialized "java/lang/IllegalArgumentException", Cond.methodLink RX4 88 yX1_countOthers]
def wsL_change_r2 : List Cond := [Cond.instanceMethod yX1_countOthers, Cond.selects RX1 yX1_countOthers yX1_countOthers, Cond.initialized RX1, Cond.code yX1_countOthers cX1_countOthers 6 (some .int), Cond.fieldLink RX1 16 "DaySimulate$Fleet" "units" "I", Cond.fieldLink RX1 11 "DaySimulate$Fleet" "stationOf" "[[I", Cond.methodLink RX4 78 yX4_needState, Cond.static yX4_needState, Cond.code yX4_needState cX4_needState 1 none, Cond.classLink RX4 202 "java/lang/IllegalStateException", Cond.initialized "java/lang/IllegalStateException"]
def wsL_change : List Cond := .codeWith yL_change cL_change 5 (some .int) [(0, 7, 10, 25), (0, 7, 14, 27)] :: ((wsL_change_r1 ++ wsL_change_r2) ++ wsX40 ++ wsX10 ++ wsX30 ++ (vx_atS RX4 131 "java/lang/IllegalArgumentException" ["java/lang/RuntimeException", "java/lang/Exception"]).filter goodWord ++ (vx_atS RX4 206 "java/lang/IllegalStateException" ["java/lang/RuntimeException", "java/lang/Exception"]).filter goodWord)
def wsL_rules : List Cond := .codeWith yL_rules cL_rules 4 (some .int) [(0, 6, 9, 13)] :: ([.classLink RL 13 "java/lang/IndexOutOfBoundsException", .methodLink RL 33 yX4_rules, .instanceMethod yX4_rules, .selects RX4 yX4_rules yX4_rules, .initialized RX4, .code yX4_rules cX4_rules 3 none, .fieldLink RX4 32 "DaySimulate" "pace" "I", .fieldLink RX4 36 "DaySimulate" "mark" "I", .methodLink RX4 57 yX4_isWithin, .static yX4_isWithin, .code yX4_isWithin cX4_isWithin 3 (some .boolean), .methodLink RX4 43 yX4_needRange, .static yX4_needRange, .code yX4_needRange cX4_needRange 1 none, .classLink RX4 197 "java/lang/IndexOutOfBoundsException", .initialized "java/lang/IndexOutOfBoundsException"] ++ wsX40 ++ (vx_atS RX4 201 "java/lang/IndexOutOfBoundsException" ["java/lang/RuntimeException", "java/lang/Exception"]).filter goodWord)
def wsL_run_r1 : List Cond := [Cond.classLink RL 25 "java/lang/IllegalArgumentException", Cond.classLink RL 13 "java/lang/IndexOutOfBoundsException", Cond.classLink RL 27 "java/lang/IllegalStateException", Cond.methodLink RL 37 yX4_run, Cond.instanceMethod yX4_run, Cond.selects RX4 yX4_run yX4_run, Cond.initialized RX4, Cond.code yX4_run cX4_run 5 (some .int), Cond.fieldLink RX4 14 "DaySimulate" "town" "LDaySimulate$Town;", Cond.fieldLink RX4 61 "DaySimulate$Town" "areas" "I", Cond.methodLink RX4 68 yX4_isBelow, Cond.static yX4_isBelow, Cond.code yX4_isBelow cX4_isBelow 2 (some .boolean), Cond.methodLink RX4 71 yX4_needKnown, Cond.static yX4_needKnown, Cond.code yX4_needKnown cX4_needKnown 1 none, Cond.classLink RX4 127 "java/lang/IllegalArgumentException", Cond.initialized "java/lang/IllegalArgumentException", Cond.methodLink RX4 57 yX4_isWithin, Cond.static yX4_isWithin, Cond.code yX4_isWithin cX4_isWithin 3 (some .boolean), Cond.methodLink RX4 43 yX4_needRange, Cond.static yX4_needRange, Cond.code yX4_needRange cX4_needRange 1 none]
def wsL_run_r2 : List Cond := [Cond.classLink RX4 197 "java/lang/IndexOutOfBoundsException", Cond.initialized "java/lang/IndexOutOfBoundsException", Cond.methodLink RX4 78 yX4_needState, Cond.static yX4_needState, Cond.code yX4_needState cX4_needState 1 none, Cond.classLink RX4 202 "java/lang/IllegalStateException", Cond.initialized "java/lang/IllegalStateException", Cond.methodLink RX4 95 yX4_lateOn, Cond.instanceMethod yX4_lateOn, Cond.selects RX4 yX4_lateOn yX4_lateOn, Cond.code yX4_lateOn cX4_lateOn 5 (some .int), Cond.fieldLink RX4 28 "DaySimulate" "play" "LDaySimulate$Play;", Cond.fieldLink RX4 99 "DaySimulate$Play" "day" "LDaySimulate$Day;", Cond.fieldLink RX4 21 "DaySimulate" "fleet" "LDaySimulate$Fleet;", Cond.fieldLink RX4 32 "DaySimulate" "pace" "I", Cond.fieldLink RX4 36 "DaySimulate" "mark" "I", Cond.methodLink RX4 176 yX0_draw, Cond.instanceMethod yX0_draw, Cond.selects RX0 yX0_draw yX0_draw, Cond.initialized RX0, Cond.code yX0_draw cX0_draw 9 none, Cond.fieldLink RX0 24 "DaySimulate$Day" "calls" "I", Cond.constant RX0 28 (1000003), Cond.fieldLink RX0 9 "DaySimulate$Day" "minute" "[I"]
def wsL_run_r3 : List Cond := [Cond.fieldLink RX0 18 "DaySimulate$Day" "rank" "[I", Cond.fieldLink RX0 21 "DaySimulate$Day" "lasts" "[I", Cond.fieldLink RX0 15 "DaySimulate$Day" "area" "[I", Cond.methodLink RX0 29 yX0_mix, Cond.static yX0_mix, Cond.code yX0_mix cX0_mix 2 (some .int), Cond.constant RX0 38 (-2048144789), Cond.constant RX0 39 (-1028477387), Cond.methodLink RX0 33 yX3_areaOfDraw, Cond.instanceMethod yX3_areaOfDraw, Cond.selects RX3 yX3_areaOfDraw yX3_areaOfDraw, Cond.initialized RX3, Cond.code yX3_areaOfDraw cX3_areaOfDraw 5 (some .int), Cond.fieldLink RX3 34 "DaySimulate$Town" "weightSum" "I", Cond.methodLink RX3 37 Lib.Math.max.name, Cond.static Lib.Math.max.name, Cond.initialized "java/lang/Math", Cond.code Lib.Math.max.name Lib.Math.max.code 2 (some .int), Cond.fieldLink RX3 31 "DaySimulate$Town" "areas" "I", Cond.fieldLink RX3 24 "DaySimulate$Town" "weight" "[I", Cond.methodLink RX4 180 yX2_begin, Cond.instanceMethod yX2_begin, Cond.selects RX2 yX2_begin yX2_begin, Cond.initialized RX2]
def wsL_run_r4 : List Cond := [Cond.code yX2_begin cX2_begin 6 none, Cond.fieldLink RX2 56 "DaySimulate$Fleet" "units" "I", Cond.fieldLink RX2 46 "DaySimulate$Play" "units" "I", Cond.fieldLink RX2 50 "DaySimulate$Play" "missedMinutes" "I", Cond.fieldLink RX2 40 "DaySimulate$Play" "backAt" "[I", Cond.fieldLink RX2 28 "DaySimulate$Play" "workOf" "[I", Cond.fieldLink RX2 59 "DaySimulate$Fleet" "stationOf" "[[I", Cond.fieldLink RX2 18 "DaySimulate$Play" "unitOf" "[I", Cond.methodLink RX2 62 yX2_post, Cond.instanceMethod yX2_post, Cond.selects RX2 yX2_post yX2_post, Cond.code yX2_post cX2_post 6 none, Cond.fieldLink RX2 31 "DaySimulate$Play" "leftOut" "[Z", Cond.fieldLink RX2 66 "DaySimulate$Town" "areas" "I", Cond.fieldLink RX2 37 "DaySimulate$Play" "wayTo" "[[I", Cond.methodLink RX2 71 yX3_wayMinutes, Cond.instanceMethod yX3_wayMinutes, Cond.selects RX3 yX3_wayMinutes yX3_wayMinutes, Cond.code yX3_wayMinutes cX3_wayMinutes 5 (some .int), Cond.fieldLink RX3 9 "DaySimulate$Town" "stationX" "[I", Cond.fieldLink RX3 18 "DaySimulate$Town" "areaX" "[I", Cond.methodLink RX3 43 Lib.Math.abs.name, Cond.static Lib.Math.abs.name, Cond.code Lib.Math.abs.name Lib.Math.abs.code 1 (some .int)]
def wsL_run_r5 : List Cond := [Cond.fieldLink RX3 15 "DaySimulate$Town" "stationY" "[I", Cond.fieldLink RX3 21 "DaySimulate$Town" "areaY" "[I", Cond.methodLink RX4 184 yX2_playOut, Cond.instanceMethod yX2_playOut, Cond.selects RX2 yX2_playOut yX2_playOut, Cond.code yX2_playOut cX2_playOut 4 none, Cond.constant RX2 75 (2147483647), Cond.methodLink RX2 88 Lib.Math.min.name, Cond.static Lib.Math.min.name, Cond.code Lib.Math.min.name Lib.Math.min.code 2 (some .int), Cond.methodLink RX2 94 Lib.Math.max.name, Cond.methodLink RX2 76 yX2_sendUnits, Cond.instanceMethod yX2_sendUnits, Cond.selects RX2 yX2_sendUnits yX2_sendUnits, Cond.code yX2_sendUnits cX2_sendUnits 5 none, Cond.fieldLink RX2 12 "DaySimulate$Play" "day" "LDaySimulate$Day;", Cond.fieldLink RX2 100 "DaySimulate$Day" "area" "[I", Cond.methodLink RX2 97 yX2_firstWaiting, Cond.instanceMethod yX2_firstWaiting, Cond.selects RX2 yX2_firstWaiting yX2_firstWaiting, Cond.code yX2_firstWaiting cX2_firstWaiting 5 (some .int), Cond.fieldLink RX2 53 "DaySimulate$Day" "calls" "I", Cond.fieldLink RX2 113 "DaySimulate$Day" "minute" "[I", Cond.methodLink RX2 116 yX2_goesAhead]
def wsL_run_r6 : List Cond := [Cond.instanceMethod yX2_goesAhead, Cond.selects RX2 yX2_goesAhead yX2_goesAhead, Cond.code yX2_goesAhead cX2_goesAhead 3 (some .boolean), Cond.fieldLink RX2 120 "DaySimulate$Day" "rank" "[I", Cond.methodLink RX2 103 yX2_nearestFree, Cond.instanceMethod yX2_nearestFree, Cond.selects RX2 yX2_nearestFree yX2_nearestFree, Cond.code yX2_nearestFree cX2_nearestFree 6 (some .int), Cond.methodLink RX2 123 yX2_isFree, Cond.instanceMethod yX2_isFree, Cond.selects RX2 yX2_isFree yX2_isFree, Cond.code yX2_isFree cX2_isFree 3 (some .boolean), Cond.methodLink RX2 106 yX2_send, Cond.instanceMethod yX2_send, Cond.selects RX2 yX2_send yX2_send, Cond.code yX2_send cX2_send 5 none, Cond.fieldLink RX2 22 "DaySimulate$Play" "wayOf" "[I", Cond.fieldLink RX2 25 "DaySimulate$Play" "arrival" "[I", Cond.fieldLink RX2 110 "DaySimulate$Day" "lasts" "[I", Cond.methodLink RX2 80 yX2_nextEvent, Cond.instanceMethod yX2_nextEvent, Cond.selects RX2 yX2_nextEvent yX2_nextEvent, Cond.code yX2_nextEvent cX2_nextEvent 4 (some .int), Cond.methodLink RX2 84 yX2_isAnyFree]
def wsL_run_r7 : List Cond := [Cond.instanceMethod yX2_isAnyFree, Cond.selects RX2 yX2_isAnyFree yX2_isAnyFree, Cond.code yX2_isAnyFree cX2_isAnyFree 3 (some .boolean), Cond.methodLink RX4 139 yX2_countLate, Cond.instanceMethod yX2_countLate, Cond.selects RX2 yX2_countLate yX2_countLate, Cond.code yX2_countLate cX2_countLate 4 (some .int), Cond.methodLink RX2 129 yX2_isLate, Cond.instanceMethod yX2_isLate, Cond.selects RX2 yX2_isLate yX2_isLate, Cond.code yX2_isLate cX2_isLate 3 (some .boolean), Cond.methodLink RX2 126 yX2_delay, Cond.instanceMethod yX2_delay, Cond.selects RX2 yX2_delay yX2_delay, Cond.code yX2_delay cX2_delay 2 (some .int)]
def wsL_run : List Cond := .codeWith yL_run cL_run 7 (some .int) [(0, 14, 17, 25), (0, 14, 21, 13), (0, 14, 25, 27)] :: ((wsL_run_r1 ++ (wsL_run_r2 ++ (wsL_run_r3 ++ (wsL_run_r4 ++ (wsL_run_r5 ++ (wsL_run_r6 ++ wsL_run_r7)))))) ++ wsX40 ++ wsX30 ++ wsX20 ++ wsX00 ++ wsX10 ++ (vx_atS RX4 131 "java/lang/IllegalArgumentException" ["java/lang/RuntimeException", "java/lang/Exception"]).filter goodWord ++ (vx_atS RX4 201 "java/lang/IndexOutOfBoundsException" ["java/lang/RuntimeException", "java/lang/Exception"]).filter goodWord ++ (vx_atS RX4 206 "java/lang/IllegalStateException" ["java/lang/RuntimeException", "java/lang/Exception"]).filter goodWord)
def wsL_call_r1 : List Cond := [Cond.classLink RL 25 "java/lang/IllegalArgumentException", Cond.methodLink RL 41 yX4_call, Cond.instanceMethod yX4_call, Cond.selects RX4 yX4_call yX4_call, Cond.initialized RX4, Cond.code yX4_call cX4_call 4 (some .int), Cond.classLink RX4 127 "java/lang/IllegalArgumentException", Cond.initialized "java/lang/IllegalArgumentException", Cond.fieldLink RX4 28 "DaySimulate" "play" "LDaySimulate$Play;", Cond.fieldLink RX4 99 "DaySimulate$Play" "day" "LDaySimulate$Day;", Cond.fieldLink RX4 103 "DaySimulate$Day" "calls" "I", Cond.fieldLink RX4 108 "DaySimulate$Day" "minute" "[I", Cond.fieldLink RX4 112 "DaySimulate$Day" "area" "[I", Cond.fieldLink RX4 115 "DaySimulate$Day" "rank" "[I", Cond.fieldLink RX4 118 "DaySimulate$Play" "unitOf" "[I", Cond.fieldLink RX4 36 "DaySimulate" "mark" "I", Cond.methodLink RX4 68 yX4_isBelow, Cond.static yX4_isBelow, Cond.code yX4_isBelow cX4_isBelow 2 (some .boolean), Cond.methodLink RX4 71 yX4_needKnown, Cond.static yX4_needKnown, Cond.code yX4_needKnown cX4_needKnown 1 none, Cond.methodLink RX4 121 yX2_delay, Cond.instanceMethod yX2_delay]
def wsL_call_r2 : List Cond := [Cond.selects RX2 yX2_delay yX2_delay, Cond.initialized RX2, Cond.code yX2_delay cX2_delay 2 (some .int), Cond.fieldLink RX2 18 "DaySimulate$Play" "unitOf" "[I", Cond.fieldLink RX2 25 "DaySimulate$Play" "arrival" "[I", Cond.fieldLink RX2 12 "DaySimulate$Play" "day" "LDaySimulate$Day;", Cond.fieldLink RX2 113 "DaySimulate$Day" "minute" "[I", Cond.methodLink RX4 124 yX2_whyLate, Cond.instanceMethod yX2_whyLate, Cond.selects RX2 yX2_whyLate yX2_whyLate, Cond.code yX2_whyLate cX2_whyLate 3 (some .int), Cond.fieldLink RX2 22 "DaySimulate$Play" "wayOf" "[I", Cond.methodLink RX2 129 yX2_isLate, Cond.instanceMethod yX2_isLate, Cond.selects RX2 yX2_isLate yX2_isLate, Cond.code yX2_isLate cX2_isLate 3 (some .boolean), Cond.methodLink RX2 126 yX2_delay]
def wsL_call : List Cond := .codeWith yL_call cL_call 5 (some .int) [(0, 10, 13, 25)] :: ((wsL_call_r1 ++ wsL_call_r2) ++ wsX40 ++ wsX20 ++ wsX00 ++ (vx_atS RX4 131 "java/lang/IllegalArgumentException" ["java/lang/RuntimeException", "java/lang/Exception"]).filter goodWord)
def wsL_share_r1 : List Cond := [Cond.classLink RL 25 "java/lang/IllegalArgumentException", Cond.classLink RL 47 "java/lang/ArithmeticException", Cond.methodLink RL 44 yX4_share, Cond.instanceMethod yX4_share, Cond.selects RX4 yX4_share yX4_share, Cond.initialized RX4, Cond.code yX4_share cX4_share 3 (some .int), Cond.classLink RX4 134 "java/lang/ArithmeticException", Cond.initialized "java/lang/ArithmeticException", Cond.fieldLink RX4 28 "DaySimulate" "play" "LDaySimulate$Play;", Cond.fieldLink RX4 99 "DaySimulate$Play" "day" "LDaySimulate$Day;", Cond.fieldLink RX4 103 "DaySimulate$Day" "calls" "I", Cond.fieldLink RX4 36 "DaySimulate" "mark" "I", Cond.methodLink RX4 57 yX4_isWithin, Cond.static yX4_isWithin, Cond.code yX4_isWithin cX4_isWithin 3 (some .boolean), Cond.methodLink RX4 71 yX4_needKnown, Cond.static yX4_needKnown, Cond.code yX4_needKnown cX4_needKnown 1 none, Cond.classLink RX4 127 "java/lang/IllegalArgumentException", Cond.initialized "java/lang/IllegalArgumentException", Cond.methodLink RX4 139 yX2_countLate, Cond.instanceMethod yX2_countLate, Cond.selects RX2 yX2_countLate yX2_countLate]
def wsL_share_r2 : List Cond := [Cond.initialized RX2, Cond.code yX2_countLate cX2_countLate 4 (some .int), Cond.fieldLink RX2 12 "DaySimulate$Play" "day" "LDaySimulate$Day;", Cond.fieldLink RX2 53 "DaySimulate$Day" "calls" "I", Cond.methodLink RX2 129 yX2_isLate, Cond.instanceMethod yX2_isLate, Cond.selects RX2 yX2_isLate yX2_isLate, Cond.code yX2_isLate cX2_isLate 3 (some .boolean), Cond.fieldLink RX2 18 "DaySimulate$Play" "unitOf" "[I", Cond.methodLink RX2 126 yX2_delay, Cond.instanceMethod yX2_delay, Cond.selects RX2 yX2_delay yX2_delay, Cond.code yX2_delay cX2_delay 2 (some .int), Cond.fieldLink RX2 25 "DaySimulate$Play" "arrival" "[I", Cond.fieldLink RX2 113 "DaySimulate$Day" "minute" "[I", Cond.methodLink RX4 142 yX4_lowestTerm, Cond.static yX4_lowestTerm, Cond.code yX4_lowestTerm cX4_lowestTerm 4 (some .int), Cond.methodLink RX4 187 yX4_commonDivisor, Cond.static yX4_commonDivisor, Cond.code yX4_commonDivisor cX4_commonDivisor 6 (some .int), Cond.methodLink RX4 190 Lib.Math.max.name, Cond.static Lib.Math.max.name, Cond.initialized "java/lang/Math"]
def wsL_share_r3 : List Cond := [Cond.code Lib.Math.max.name Lib.Math.max.code 2 (some .int)]
def wsL_share : List Cond := .codeWith yL_share cL_share 4 (some .int) [(0, 9, 12, 25), (0, 9, 15, 47)] :: ((wsL_share_r1 ++ (wsL_share_r2 ++ wsL_share_r3)) ++ wsX40 ++ wsX20 ++ wsX00 ++ (vx_atS RX4 138 "java/lang/ArithmeticException" ["java/lang/RuntimeException", "java/lang/Exception"]).filter goodWord ++ (vx_atS RX4 131 "java/lang/IllegalArgumentException" ["java/lang/RuntimeException", "java/lang/Exception"]).filter goodWord)
def wsL_mean_r1 : List Cond := [Cond.classLink RL 47 "java/lang/ArithmeticException", Cond.methodLink RL 49 yX4_mean, Cond.instanceMethod yX4_mean, Cond.selects RX4 yX4_mean yX4_mean, Cond.initialized RX4, Cond.code yX4_mean cX4_mean 2 (some .int), Cond.classLink RX4 134 "java/lang/ArithmeticException", Cond.initialized "java/lang/ArithmeticException", Cond.fieldLink RX4 28 "DaySimulate" "play" "LDaySimulate$Play;", Cond.constantLong RX4 156 (1000), Cond.methodLink RX4 146 yX2_countServed, Cond.instanceMethod yX2_countServed, Cond.selects RX2 yX2_countServed yX2_countServed, Cond.initialized RX2, Cond.code yX2_countServed cX2_countServed 3 (some .int), Cond.fieldLink RX2 12 "DaySimulate$Play" "day" "LDaySimulate$Day;", Cond.fieldLink RX2 53 "DaySimulate$Day" "calls" "I", Cond.fieldLink RX2 18 "DaySimulate$Play" "unitOf" "[I", Cond.methodLink RX4 152 yX2_sumOfDelays, Cond.instanceMethod yX2_sumOfDelays, Cond.selects RX2 yX2_sumOfDelays yX2_sumOfDelays, Cond.code yX2_sumOfDelays cX2_sumOfDelays 4 (some .long), Cond.methodLink RX2 126 yX2_delay, Cond.instanceMethod yX2_delay]
def wsL_mean_r2 : List Cond := [Cond.selects RX2 yX2_delay yX2_delay, Cond.code yX2_delay cX2_delay 2 (some .int), Cond.fieldLink RX2 25 "DaySimulate$Play" "arrival" "[I", Cond.fieldLink RX2 113 "DaySimulate$Day" "minute" "[I"]
def wsL_mean : List Cond := .codeWith yL_mean cL_mean 3 (some .int) [(0, 8, 11, 47)] :: ((wsL_mean_r1 ++ wsL_mean_r2) ++ wsX40 ++ wsX20 ++ wsX00 ++ (vx_atS RX4 138 "java/lang/ArithmeticException" ["java/lang/RuntimeException", "java/lang/Exception"]).filter goodWord)
def wsL_work : List Cond := .codeWith yL_work cL_work 4 (some .int) [(0, 9, 12, 25)] :: ([.classLink RL 25 "java/lang/IllegalArgumentException", .methodLink RL 53 yX4_work, .instanceMethod yX4_work, .selects RX4 yX4_work yX4_work, .initialized RX4, .code yX4_work cX4_work 2 (some .int), .fieldLink RX4 21 "DaySimulate" "fleet" "LDaySimulate$Fleet;", .fieldLink RX4 81 "DaySimulate$Fleet" "units" "I", .fieldLink RX4 28 "DaySimulate" "play" "LDaySimulate$Play;", .fieldLink RX4 161 "DaySimulate$Play" "workOf" "[I", .methodLink RX4 68 yX4_isBelow, .static yX4_isBelow, .code yX4_isBelow cX4_isBelow 2 (some .boolean), .methodLink RX4 71 yX4_needKnown, .static yX4_needKnown, .code yX4_needKnown cX4_needKnown 1 none, .classLink RX4 127 "java/lang/IllegalArgumentException", .initialized "java/lang/IllegalArgumentException"] ++ wsX40 ++ wsX10 ++ wsX20 ++ (vx_atS RX4 131 "java/lang/IllegalArgumentException" ["java/lang/RuntimeException", "java/lang/Exception"]).filter goodWord)
def wsL_arrived : List Cond := .codeWith yL_arrived cL_arrived 4 (some .int) [(0, 9, 12, 13)] :: ([.classLink RL 13 "java/lang/IndexOutOfBoundsException", .methodLink RL 56 yX4_arrived, .instanceMethod yX4_arrived, .selects RX4 yX4_arrived yX4_arrived, .initialized RX4, .code yX4_arrived cX4_arrived 2 (some .int), .fieldLink RX4 28 "DaySimulate" "play" "LDaySimulate$Play;", .methodLink RX4 57 yX4_isWithin, .static yX4_isWithin, .code yX4_isWithin cX4_isWithin 3 (some .boolean), .methodLink RX4 43 yX4_needRange, .static yX4_needRange, .code yX4_needRange cX4_needRange 1 none, .classLink RX4 197 "java/lang/IndexOutOfBoundsException", .initialized "java/lang/IndexOutOfBoundsException", .methodLink RX4 167 yX2_countArrivedBy, .instanceMethod yX2_countArrivedBy, .selects RX2 yX2_countArrivedBy yX2_countArrivedBy, .initialized RX2, .code yX2_countArrivedBy cX2_countArrivedBy 4 (some .int), .fieldLink RX2 12 "DaySimulate$Play" "day" "LDaySimulate$Day;", .fieldLink RX2 53 "DaySimulate$Day" "calls" "I", .fieldLink RX2 18 "DaySimulate$Play" "unitOf" "[I", .fieldLink RX2 25 "DaySimulate$Play" "arrival" "[I"] ++ wsX40 ++ wsX20 ++ wsX00 ++ (vx_atS RX4 201 "java/lang/IndexOutOfBoundsException" ["java/lang/RuntimeException", "java/lang/Exception"]).filter goodWord)
def wsL_unlucky_r1 : List Cond := [Cond.classLink RL 25 "java/lang/IllegalArgumentException", Cond.classLink RL 13 "java/lang/IndexOutOfBoundsException", Cond.classLink RL 27 "java/lang/IllegalStateException", Cond.methodLink RL 59 yX4_unlucky, Cond.instanceMethod yX4_unlucky, Cond.selects RX4 yX4_unlucky yX4_unlucky, Cond.initialized RX4, Cond.code yX4_unlucky cX4_unlucky 10 (some .int), Cond.fieldLink RX4 14 "DaySimulate" "town" "LDaySimulate$Town;", Cond.fieldLink RX4 61 "DaySimulate$Town" "areas" "I", Cond.fieldLink RX4 28 "DaySimulate" "play" "LDaySimulate$Play;", Cond.methodLink RX4 68 yX4_isBelow, Cond.static yX4_isBelow, Cond.code yX4_isBelow cX4_isBelow 2 (some .boolean), Cond.methodLink RX4 71 yX4_needKnown, Cond.static yX4_needKnown, Cond.code yX4_needKnown cX4_needKnown 1 none, Cond.classLink RX4 127 "java/lang/IllegalArgumentException", Cond.initialized "java/lang/IllegalArgumentException", Cond.methodLink RX4 57 yX4_isWithin, Cond.static yX4_isWithin, Cond.code yX4_isWithin cX4_isWithin 3 (some .boolean), Cond.methodLink RX4 43 yX4_needRange, Cond.static yX4_needRange]
def wsL_unlucky_r2 : List Cond := [Cond.code yX4_needRange cX4_needRange 1 none, Cond.classLink RX4 197 "java/lang/IndexOutOfBoundsException", Cond.initialized "java/lang/IndexOutOfBoundsException", Cond.methodLink RX4 78 yX4_needState, Cond.static yX4_needState, Cond.code yX4_needState cX4_needState 1 none, Cond.classLink RX4 202 "java/lang/IllegalStateException", Cond.initialized "java/lang/IllegalStateException", Cond.methodLink RX4 95 yX4_lateOn, Cond.instanceMethod yX4_lateOn, Cond.selects RX4 yX4_lateOn yX4_lateOn, Cond.code yX4_lateOn cX4_lateOn 5 (some .int), Cond.fieldLink RX4 99 "DaySimulate$Play" "day" "LDaySimulate$Day;", Cond.fieldLink RX4 21 "DaySimulate" "fleet" "LDaySimulate$Fleet;", Cond.fieldLink RX4 32 "DaySimulate" "pace" "I", Cond.fieldLink RX4 36 "DaySimulate" "mark" "I", Cond.methodLink RX4 176 yX0_draw, Cond.instanceMethod yX0_draw, Cond.selects RX0 yX0_draw yX0_draw, Cond.initialized RX0, Cond.code yX0_draw cX0_draw 9 none, Cond.fieldLink RX0 24 "DaySimulate$Day" "calls" "I", Cond.constant RX0 28 (1000003), Cond.fieldLink RX0 9 "DaySimulate$Day" "minute" "[I"]
def wsL_unlucky_r3 : List Cond := [Cond.fieldLink RX0 18 "DaySimulate$Day" "rank" "[I", Cond.fieldLink RX0 21 "DaySimulate$Day" "lasts" "[I", Cond.fieldLink RX0 15 "DaySimulate$Day" "area" "[I", Cond.methodLink RX0 29 yX0_mix, Cond.static yX0_mix, Cond.code yX0_mix cX0_mix 2 (some .int), Cond.constant RX0 38 (-2048144789), Cond.constant RX0 39 (-1028477387), Cond.methodLink RX0 33 yX3_areaOfDraw, Cond.instanceMethod yX3_areaOfDraw, Cond.selects RX3 yX3_areaOfDraw yX3_areaOfDraw, Cond.initialized RX3, Cond.code yX3_areaOfDraw cX3_areaOfDraw 5 (some .int), Cond.fieldLink RX3 34 "DaySimulate$Town" "weightSum" "I", Cond.methodLink RX3 37 Lib.Math.max.name, Cond.static Lib.Math.max.name, Cond.initialized "java/lang/Math", Cond.code Lib.Math.max.name Lib.Math.max.code 2 (some .int), Cond.fieldLink RX3 31 "DaySimulate$Town" "areas" "I", Cond.fieldLink RX3 24 "DaySimulate$Town" "weight" "[I", Cond.methodLink RX4 180 yX2_begin, Cond.instanceMethod yX2_begin, Cond.selects RX2 yX2_begin yX2_begin, Cond.initialized RX2]
def wsL_unlucky_r4 : List Cond := [Cond.code yX2_begin cX2_begin 6 none, Cond.fieldLink RX2 56 "DaySimulate$Fleet" "units" "I", Cond.fieldLink RX2 46 "DaySimulate$Play" "units" "I", Cond.fieldLink RX2 50 "DaySimulate$Play" "missedMinutes" "I", Cond.fieldLink RX2 40 "DaySimulate$Play" "backAt" "[I", Cond.fieldLink RX2 28 "DaySimulate$Play" "workOf" "[I", Cond.fieldLink RX2 59 "DaySimulate$Fleet" "stationOf" "[[I", Cond.fieldLink RX2 18 "DaySimulate$Play" "unitOf" "[I", Cond.methodLink RX2 62 yX2_post, Cond.instanceMethod yX2_post, Cond.selects RX2 yX2_post yX2_post, Cond.code yX2_post cX2_post 6 none, Cond.fieldLink RX2 31 "DaySimulate$Play" "leftOut" "[Z", Cond.fieldLink RX2 66 "DaySimulate$Town" "areas" "I", Cond.fieldLink RX2 37 "DaySimulate$Play" "wayTo" "[[I", Cond.methodLink RX2 71 yX3_wayMinutes, Cond.instanceMethod yX3_wayMinutes, Cond.selects RX3 yX3_wayMinutes yX3_wayMinutes, Cond.code yX3_wayMinutes cX3_wayMinutes 5 (some .int), Cond.fieldLink RX3 9 "DaySimulate$Town" "stationX" "[I", Cond.fieldLink RX3 18 "DaySimulate$Town" "areaX" "[I", Cond.methodLink RX3 43 Lib.Math.abs.name, Cond.static Lib.Math.abs.name, Cond.code Lib.Math.abs.name Lib.Math.abs.code 1 (some .int)]
def wsL_unlucky_r5 : List Cond := [Cond.fieldLink RX3 15 "DaySimulate$Town" "stationY" "[I", Cond.fieldLink RX3 21 "DaySimulate$Town" "areaY" "[I", Cond.methodLink RX4 184 yX2_playOut, Cond.instanceMethod yX2_playOut, Cond.selects RX2 yX2_playOut yX2_playOut, Cond.code yX2_playOut cX2_playOut 4 none, Cond.constant RX2 75 (2147483647), Cond.methodLink RX2 88 Lib.Math.min.name, Cond.static Lib.Math.min.name, Cond.code Lib.Math.min.name Lib.Math.min.code 2 (some .int), Cond.methodLink RX2 94 Lib.Math.max.name, Cond.methodLink RX2 76 yX2_sendUnits, Cond.instanceMethod yX2_sendUnits, Cond.selects RX2 yX2_sendUnits yX2_sendUnits, Cond.code yX2_sendUnits cX2_sendUnits 5 none, Cond.fieldLink RX2 12 "DaySimulate$Play" "day" "LDaySimulate$Day;", Cond.fieldLink RX2 100 "DaySimulate$Day" "area" "[I", Cond.methodLink RX2 97 yX2_firstWaiting, Cond.instanceMethod yX2_firstWaiting, Cond.selects RX2 yX2_firstWaiting yX2_firstWaiting, Cond.code yX2_firstWaiting cX2_firstWaiting 5 (some .int), Cond.fieldLink RX2 53 "DaySimulate$Day" "calls" "I", Cond.fieldLink RX2 113 "DaySimulate$Day" "minute" "[I", Cond.methodLink RX2 116 yX2_goesAhead]
def wsL_unlucky_r6 : List Cond := [Cond.instanceMethod yX2_goesAhead, Cond.selects RX2 yX2_goesAhead yX2_goesAhead, Cond.code yX2_goesAhead cX2_goesAhead 3 (some .boolean), Cond.fieldLink RX2 120 "DaySimulate$Day" "rank" "[I", Cond.methodLink RX2 103 yX2_nearestFree, Cond.instanceMethod yX2_nearestFree, Cond.selects RX2 yX2_nearestFree yX2_nearestFree, Cond.code yX2_nearestFree cX2_nearestFree 6 (some .int), Cond.methodLink RX2 123 yX2_isFree, Cond.instanceMethod yX2_isFree, Cond.selects RX2 yX2_isFree yX2_isFree, Cond.code yX2_isFree cX2_isFree 3 (some .boolean), Cond.methodLink RX2 106 yX2_send, Cond.instanceMethod yX2_send, Cond.selects RX2 yX2_send yX2_send, Cond.code yX2_send cX2_send 5 none, Cond.fieldLink RX2 22 "DaySimulate$Play" "wayOf" "[I", Cond.fieldLink RX2 25 "DaySimulate$Play" "arrival" "[I", Cond.fieldLink RX2 110 "DaySimulate$Day" "lasts" "[I", Cond.methodLink RX2 80 yX2_nextEvent, Cond.instanceMethod yX2_nextEvent, Cond.selects RX2 yX2_nextEvent yX2_nextEvent, Cond.code yX2_nextEvent cX2_nextEvent 4 (some .int), Cond.methodLink RX2 84 yX2_isAnyFree]
def wsL_unlucky_r7 : List Cond := [Cond.instanceMethod yX2_isAnyFree, Cond.selects RX2 yX2_isAnyFree yX2_isAnyFree, Cond.code yX2_isAnyFree cX2_isAnyFree 3 (some .boolean), Cond.methodLink RX4 139 yX2_countLate, Cond.instanceMethod yX2_countLate, Cond.selects RX2 yX2_countLate yX2_countLate, Cond.code yX2_countLate cX2_countLate 4 (some .int), Cond.methodLink RX2 129 yX2_isLate, Cond.instanceMethod yX2_isLate, Cond.selects RX2 yX2_isLate yX2_isLate, Cond.code yX2_isLate cX2_isLate 3 (some .boolean), Cond.methodLink RX2 126 yX2_delay, Cond.instanceMethod yX2_delay, Cond.selects RX2 yX2_delay yX2_delay, Cond.code yX2_delay cX2_delay 2 (some .int), Cond.methodLink RX4 170 yX2_forget, Cond.instanceMethod yX2_forget, Cond.selects RX2 yX2_forget yX2_forget, Cond.code yX2_forget cX2_forget 2 none]
def wsL_unlucky : List Cond := .codeWith yL_unlucky cL_unlucky 8 (some .int) [(0, 16, 19, 25), (0, 16, 23, 13), (0, 16, 27, 27)] :: ((wsL_unlucky_r1 ++ (wsL_unlucky_r2 ++ (wsL_unlucky_r3 ++ (wsL_unlucky_r4 ++ (wsL_unlucky_r5 ++ (wsL_unlucky_r6 ++ wsL_unlucky_r7)))))) ++ wsX40 ++ wsX30 ++ wsX20 ++ wsX00 ++ wsX10 ++ (vx_atS RX4 131 "java/lang/IllegalArgumentException" ["java/lang/RuntimeException", "java/lang/Exception"]).filter goodWord ++ (vx_atS RX4 201 "java/lang/IndexOutOfBoundsException" ["java/lang/RuntimeException", "java/lang/Exception"]).filter goodWord ++ (vx_atS RX4 206 "java/lang/IllegalStateException" ["java/lang/RuntimeException", "java/lang/Exception"]).filter goodWord)
def wsL_compare_r1 : List Cond := [Cond.classLink RL 25 "java/lang/IllegalArgumentException", Cond.classLink RL 13 "java/lang/IndexOutOfBoundsException", Cond.classLink RL 27 "java/lang/IllegalStateException", Cond.methodLink RL 63 yX4_compare, Cond.instanceMethod yX4_compare, Cond.selects RX4 yX4_compare yX4_compare, Cond.initialized RX4, Cond.code yX4_compare cX4_compare 12 (some .int), Cond.fieldLink RX4 14 "DaySimulate" "town" "LDaySimulate$Town;", Cond.fieldLink RX4 61 "DaySimulate$Town" "areas" "I", Cond.fieldLink RX4 28 "DaySimulate" "play" "LDaySimulate$Play;", Cond.methodLink RX4 68 yX4_isBelow, Cond.static yX4_isBelow, Cond.code yX4_isBelow cX4_isBelow 2 (some .boolean), Cond.methodLink RX4 57 yX4_isWithin, Cond.static yX4_isWithin, Cond.code yX4_isWithin cX4_isWithin 3 (some .boolean), Cond.methodLink RX4 71 yX4_needKnown, Cond.static yX4_needKnown, Cond.code yX4_needKnown cX4_needKnown 1 none, Cond.classLink RX4 127 "java/lang/IllegalArgumentException", Cond.initialized "java/lang/IllegalArgumentException", Cond.methodLink RX4 43 yX4_needRange, Cond.static yX4_needRange]
def wsL_compare_r2 : List Cond := [Cond.code yX4_needRange cX4_needRange 1 none, Cond.classLink RX4 197 "java/lang/IndexOutOfBoundsException", Cond.initialized "java/lang/IndexOutOfBoundsException", Cond.methodLink RX4 78 yX4_needState, Cond.static yX4_needState, Cond.code yX4_needState cX4_needState 1 none, Cond.classLink RX4 202 "java/lang/IllegalStateException", Cond.initialized "java/lang/IllegalStateException", Cond.methodLink RX4 95 yX4_lateOn, Cond.instanceMethod yX4_lateOn, Cond.selects RX4 yX4_lateOn yX4_lateOn, Cond.code yX4_lateOn cX4_lateOn 5 (some .int), Cond.fieldLink RX4 99 "DaySimulate$Play" "day" "LDaySimulate$Day;", Cond.fieldLink RX4 21 "DaySimulate" "fleet" "LDaySimulate$Fleet;", Cond.fieldLink RX4 32 "DaySimulate" "pace" "I", Cond.fieldLink RX4 36 "DaySimulate" "mark" "I", Cond.methodLink RX4 176 yX0_draw, Cond.instanceMethod yX0_draw, Cond.selects RX0 yX0_draw yX0_draw, Cond.initialized RX0, Cond.code yX0_draw cX0_draw 9 none, Cond.fieldLink RX0 24 "DaySimulate$Day" "calls" "I", Cond.constant RX0 28 (1000003), Cond.fieldLink RX0 9 "DaySimulate$Day" "minute" "[I"]
def wsL_compare_r3 : List Cond := [Cond.fieldLink RX0 18 "DaySimulate$Day" "rank" "[I", Cond.fieldLink RX0 21 "DaySimulate$Day" "lasts" "[I", Cond.fieldLink RX0 15 "DaySimulate$Day" "area" "[I", Cond.methodLink RX0 29 yX0_mix, Cond.static yX0_mix, Cond.code yX0_mix cX0_mix 2 (some .int), Cond.constant RX0 38 (-2048144789), Cond.constant RX0 39 (-1028477387), Cond.methodLink RX0 33 yX3_areaOfDraw, Cond.instanceMethod yX3_areaOfDraw, Cond.selects RX3 yX3_areaOfDraw yX3_areaOfDraw, Cond.initialized RX3, Cond.code yX3_areaOfDraw cX3_areaOfDraw 5 (some .int), Cond.fieldLink RX3 34 "DaySimulate$Town" "weightSum" "I", Cond.methodLink RX3 37 Lib.Math.max.name, Cond.static Lib.Math.max.name, Cond.initialized "java/lang/Math", Cond.code Lib.Math.max.name Lib.Math.max.code 2 (some .int), Cond.fieldLink RX3 31 "DaySimulate$Town" "areas" "I", Cond.fieldLink RX3 24 "DaySimulate$Town" "weight" "[I", Cond.methodLink RX4 180 yX2_begin, Cond.instanceMethod yX2_begin, Cond.selects RX2 yX2_begin yX2_begin, Cond.initialized RX2]
def wsL_compare_r4 : List Cond := [Cond.code yX2_begin cX2_begin 6 none, Cond.fieldLink RX2 56 "DaySimulate$Fleet" "units" "I", Cond.fieldLink RX2 46 "DaySimulate$Play" "units" "I", Cond.fieldLink RX2 50 "DaySimulate$Play" "missedMinutes" "I", Cond.fieldLink RX2 40 "DaySimulate$Play" "backAt" "[I", Cond.fieldLink RX2 28 "DaySimulate$Play" "workOf" "[I", Cond.fieldLink RX2 59 "DaySimulate$Fleet" "stationOf" "[[I", Cond.fieldLink RX2 18 "DaySimulate$Play" "unitOf" "[I", Cond.methodLink RX2 62 yX2_post, Cond.instanceMethod yX2_post, Cond.selects RX2 yX2_post yX2_post, Cond.code yX2_post cX2_post 6 none, Cond.fieldLink RX2 31 "DaySimulate$Play" "leftOut" "[Z", Cond.fieldLink RX2 66 "DaySimulate$Town" "areas" "I", Cond.fieldLink RX2 37 "DaySimulate$Play" "wayTo" "[[I", Cond.methodLink RX2 71 yX3_wayMinutes, Cond.instanceMethod yX3_wayMinutes, Cond.selects RX3 yX3_wayMinutes yX3_wayMinutes, Cond.code yX3_wayMinutes cX3_wayMinutes 5 (some .int), Cond.fieldLink RX3 9 "DaySimulate$Town" "stationX" "[I", Cond.fieldLink RX3 18 "DaySimulate$Town" "areaX" "[I", Cond.methodLink RX3 43 Lib.Math.abs.name, Cond.static Lib.Math.abs.name, Cond.code Lib.Math.abs.name Lib.Math.abs.code 1 (some .int)]
def wsL_compare_r5 : List Cond := [Cond.fieldLink RX3 15 "DaySimulate$Town" "stationY" "[I", Cond.fieldLink RX3 21 "DaySimulate$Town" "areaY" "[I", Cond.methodLink RX4 184 yX2_playOut, Cond.instanceMethod yX2_playOut, Cond.selects RX2 yX2_playOut yX2_playOut, Cond.code yX2_playOut cX2_playOut 4 none, Cond.constant RX2 75 (2147483647), Cond.methodLink RX2 88 Lib.Math.min.name, Cond.static Lib.Math.min.name, Cond.code Lib.Math.min.name Lib.Math.min.code 2 (some .int), Cond.methodLink RX2 94 Lib.Math.max.name, Cond.methodLink RX2 76 yX2_sendUnits, Cond.instanceMethod yX2_sendUnits, Cond.selects RX2 yX2_sendUnits yX2_sendUnits, Cond.code yX2_sendUnits cX2_sendUnits 5 none, Cond.fieldLink RX2 12 "DaySimulate$Play" "day" "LDaySimulate$Day;", Cond.fieldLink RX2 100 "DaySimulate$Day" "area" "[I", Cond.methodLink RX2 97 yX2_firstWaiting, Cond.instanceMethod yX2_firstWaiting, Cond.selects RX2 yX2_firstWaiting yX2_firstWaiting, Cond.code yX2_firstWaiting cX2_firstWaiting 5 (some .int), Cond.fieldLink RX2 53 "DaySimulate$Day" "calls" "I", Cond.fieldLink RX2 113 "DaySimulate$Day" "minute" "[I", Cond.methodLink RX2 116 yX2_goesAhead]
def wsL_compare_r6 : List Cond := [Cond.instanceMethod yX2_goesAhead, Cond.selects RX2 yX2_goesAhead yX2_goesAhead, Cond.code yX2_goesAhead cX2_goesAhead 3 (some .boolean), Cond.fieldLink RX2 120 "DaySimulate$Day" "rank" "[I", Cond.methodLink RX2 103 yX2_nearestFree, Cond.instanceMethod yX2_nearestFree, Cond.selects RX2 yX2_nearestFree yX2_nearestFree, Cond.code yX2_nearestFree cX2_nearestFree 6 (some .int), Cond.methodLink RX2 123 yX2_isFree, Cond.instanceMethod yX2_isFree, Cond.selects RX2 yX2_isFree yX2_isFree, Cond.code yX2_isFree cX2_isFree 3 (some .boolean), Cond.methodLink RX2 106 yX2_send, Cond.instanceMethod yX2_send, Cond.selects RX2 yX2_send yX2_send, Cond.code yX2_send cX2_send 5 none, Cond.fieldLink RX2 22 "DaySimulate$Play" "wayOf" "[I", Cond.fieldLink RX2 25 "DaySimulate$Play" "arrival" "[I", Cond.fieldLink RX2 110 "DaySimulate$Day" "lasts" "[I", Cond.methodLink RX2 80 yX2_nextEvent, Cond.instanceMethod yX2_nextEvent, Cond.selects RX2 yX2_nextEvent yX2_nextEvent, Cond.code yX2_nextEvent cX2_nextEvent 4 (some .int), Cond.methodLink RX2 84 yX2_isAnyFree]
def wsL_compare_r7 : List Cond := [Cond.instanceMethod yX2_isAnyFree, Cond.selects RX2 yX2_isAnyFree yX2_isAnyFree, Cond.code yX2_isAnyFree cX2_isAnyFree 3 (some .boolean), Cond.methodLink RX4 139 yX2_countLate, Cond.instanceMethod yX2_countLate, Cond.selects RX2 yX2_countLate yX2_countLate, Cond.code yX2_countLate cX2_countLate 4 (some .int), Cond.methodLink RX2 129 yX2_isLate, Cond.instanceMethod yX2_isLate, Cond.selects RX2 yX2_isLate yX2_isLate, Cond.code yX2_isLate cX2_isLate 3 (some .boolean), Cond.methodLink RX2 126 yX2_delay, Cond.instanceMethod yX2_delay, Cond.selects RX2 yX2_delay yX2_delay, Cond.code yX2_delay cX2_delay 2 (some .int), Cond.methodLink RX4 170 yX2_forget, Cond.instanceMethod yX2_forget, Cond.selects RX2 yX2_forget yX2_forget, Cond.code yX2_forget cX2_forget 2 none, Cond.methodLink RX4 173 yX4_waysOfHeads, Cond.static yX4_waysOfHeads, Cond.code yX4_waysOfHeads cX4_waysOfHeads 5 (some .int), Cond.methodLink RX4 142 yX4_lowestTerm, Cond.static yX4_lowestTerm]
def wsL_compare_r8 : List Cond := [Cond.code yX4_lowestTerm cX4_lowestTerm 4 (some .int), Cond.methodLink RX4 187 yX4_commonDivisor, Cond.static yX4_commonDivisor, Cond.code yX4_commonDivisor cX4_commonDivisor 6 (some .int), Cond.methodLink RX4 190 Lib.Math.max.name]
def wsL_compare : List Cond := .codeWith yL_compare cL_compare 9 (some .int) [(0, 18, 21, 25), (0, 18, 25, 13), (0, 18, 29, 27)] :: ((wsL_compare_r1 ++ (wsL_compare_r2 ++ (wsL_compare_r3 ++ (wsL_compare_r4 ++ (wsL_compare_r5 ++ (wsL_compare_r6 ++ (wsL_compare_r7 ++ wsL_compare_r8))))))) ++ wsX40 ++ wsX30 ++ wsX20 ++ wsX00 ++ wsX10 ++ (vx_atS RX4 131 "java/lang/IllegalArgumentException" ["java/lang/RuntimeException", "java/lang/Exception"]).filter goodWord ++ (vx_atS RX4 201 "java/lang/IndexOutOfBoundsException" ["java/lang/RuntimeException", "java/lang/Exception"]).filter goodWord ++ (vx_atS RX4 206 "java/lang/IllegalStateException" ["java/lang/RuntimeException", "java/lang/Exception"]).filter goodWord)
def wsL_law0_r1 : List Cond := [Cond.classLink RL 8 RX4, Cond.instantiable RX4 5, Cond.initialized RX4, Cond.classLink RL 68 RX5, Cond.instantiable RX5 24, Cond.initialized RX5, Cond.arrayClass .long, Cond.methodLink RL 67 yX4_init, Cond.instanceMethod yX4_init, Cond.code yX4_init cX4_init 1 none, Cond.methodLink RX4 5 objectInit, Cond.instanceMethod objectInit, Cond.code objectInit ⟨#[0xb1]⟩ 1 none, Cond.classLink RX4 11 RX3, Cond.instantiable RX3 8, Cond.initialized RX3, Cond.fieldLink RX4 14 "DaySimulate" "town" "LDaySimulate$Town;", Cond.classLink RX4 18 RX1, Cond.instantiable RX1 2, Cond.initialized RX1, Cond.fieldLink RX4 21 "DaySimulate" "fleet" "LDaySimulate$Fleet;", Cond.classLink RX4 25 RX2, Cond.instantiable RX2 11, Cond.initialized RX2]
def wsL_law0_r2 : List Cond := [Cond.fieldLink RX4 28 "DaySimulate" "play" "LDaySimulate$Play;", Cond.fieldLink RX4 32 "DaySimulate" "pace" "I", Cond.fieldLink RX4 36 "DaySimulate" "mark" "I", Cond.instanceMethod yX3_init, Cond.code yX3_init cX3_init 1 none, Cond.methodLink RX3 3 objectInit, Cond.arrayClass .int, Cond.fieldLink RX3 9 "DaySimulate$Town" "stationX" "[I", Cond.fieldLink RX3 15 "DaySimulate$Town" "stationY" "[I", Cond.fieldLink RX3 18 "DaySimulate$Town" "areaX" "[I", Cond.fieldLink RX3 21 "DaySimulate$Town" "areaY" "[I", Cond.fieldLink RX3 24 "DaySimulate$Town" "weight" "[I", Cond.fieldLink RX3 27 "DaySimulate$Town" "stations" "I", Cond.fieldLink RX3 31 "DaySimulate$Town" "areas" "I", Cond.fieldLink RX3 34 "DaySimulate$Town" "weightSum" "I", Cond.instanceMethod yX1_init, Cond.code yX1_init cX1_init 1 none, Cond.methodLink RX1 3 objectInit, Cond.classLink RX1 9 "[[I", Cond.fieldLink RX1 11 "DaySimulate$Fleet" "stationOf" "[[I", Cond.fieldLink RX1 16 "DaySimulate$Fleet" "units" "I", Cond.instanceMethod yX2_init, Cond.code yX2_init cX2_init 1 none, Cond.methodLink RX2 3 objectInit]
def wsL_law0_r3 : List Cond := [Cond.classLink RX2 9 RX0, Cond.instantiable RX0 5, Cond.initialized RX0, Cond.fieldLink RX2 12 "DaySimulate$Play" "day" "LDaySimulate$Day;", Cond.fieldLink RX2 18 "DaySimulate$Play" "unitOf" "[I", Cond.fieldLink RX2 22 "DaySimulate$Play" "wayOf" "[I", Cond.fieldLink RX2 25 "DaySimulate$Play" "arrival" "[I", Cond.fieldLink RX2 28 "DaySimulate$Play" "workOf" "[I", Cond.arrayClass .boolean, Cond.fieldLink RX2 31 "DaySimulate$Play" "leftOut" "[Z", Cond.classLink RX2 35 "[[I", Cond.fieldLink RX2 37 "DaySimulate$Play" "wayTo" "[[I", Cond.fieldLink RX2 40 "DaySimulate$Play" "backAt" "[I", Cond.fieldLink RX2 43 "DaySimulate$Play" "lateInHour" "[I", Cond.fieldLink RX2 46 "DaySimulate$Play" "units" "I", Cond.fieldLink RX2 50 "DaySimulate$Play" "missedMinutes" "I", Cond.instanceMethod yX0_init, Cond.code yX0_init cX0_init 1 none, Cond.methodLink RX0 3 objectInit, Cond.fieldLink RX0 9 "DaySimulate$Day" "minute" "[I", Cond.fieldLink RX0 15 "DaySimulate$Day" "area" "[I", Cond.fieldLink RX0 18 "DaySimulate$Day" "rank" "[I", Cond.fieldLink RX0 21 "DaySimulate$Day" "lasts" "[I", Cond.fieldLink RX0 24 "DaySimulate$Day" "calls" "I"]
def wsL_law0_r4 : List Cond := [Cond.methodLink RL 70 yX5_init, Cond.instanceMethod yX5_init, Cond.code yX5_init cX5_init 1 none, Cond.methodLink RX5 1 objectInit, Cond.fieldLink RX5 7 "DaySimulateModel" "pace" "I", Cond.fieldLink RX5 13 "DaySimulateModel" "mark" "I", Cond.fieldLink RX5 16 "DaySimulateModel" "stationX" "[I", Cond.fieldLink RX5 20 "DaySimulateModel" "stationY" "[I", Cond.fieldLink RX5 23 "DaySimulateModel" "areaX" "[I", Cond.fieldLink RX5 26 "DaySimulateModel" "areaY" "[I", Cond.fieldLink RX5 29 "DaySimulateModel" "weight" "[I", Cond.fieldLink RX5 32 "DaySimulateModel" "stands" "[I", Cond.fieldLink RX5 35 "DaySimulateModel" "minute" "[I", Cond.fieldLink RX5 38 "DaySimulateModel" "place" "[I", Cond.fieldLink RX5 41 "DaySimulateModel" "rank" "[I", Cond.fieldLink RX5 44 "DaySimulateModel" "lasts" "[I", Cond.fieldLink RX5 47 "DaySimulateModel" "unit" "[I", Cond.fieldLink RX5 50 "DaySimulateModel" "came" "[I", Cond.fieldLink RX5 53 "DaySimulateModel" "way" "[I", Cond.fieldLink RX5 56 "DaySimulateModel" "back" "[I", Cond.fieldLink RX5 59 "DaySimulateModel" "work" "[I", Cond.fieldLink RX5 62 "DaySimulateModel" "busy" "[I", Cond.methodLink RL 71 yL_station, Cond.static yL_station]
def wsL_law0_r5 : List Cond := [Cond.initialized RL, Cond.codeWith yL_station cL_station 5 (some .int) [(0, 10, 13, 13), (0, 10, 17, 15)], Cond.classLink RL 13 "java/lang/IndexOutOfBoundsException", Cond.classLink RL 15 "java/lang/UnsupportedOperationException", Cond.methodLink RL 7 yX4_station, Cond.instanceMethod yX4_station, Cond.selects RX4 yX4_station yX4_station, Cond.code yX4_station cX4_station 3 (some .int), Cond.fieldLink RX4 47 "DaySimulate$Town" "stations" "I", Cond.methodLink RX4 39 yX4_isPlace, Cond.static yX4_isPlace, Cond.code yX4_isPlace cX4_isPlace 2 (some .boolean), Cond.methodLink RX4 68 yX4_isBelow, Cond.static yX4_isBelow, Cond.code yX4_isBelow cX4_isBelow 2 (some .boolean), Cond.methodLink RX4 43 yX4_needRange, Cond.static yX4_needRange, Cond.code yX4_needRange cX4_needRange 1 none, Cond.classLink RX4 197 "java/lang/IndexOutOfBoundsException", Cond.initialized "java/lang/IndexOutOfBoundsException", Cond.methodLink RX4 50 yX4_needRoom, Cond.static yX4_needRoom, Cond.code yX4_needRoom cX4_needRoom 1 none, Cond.classLink RX4 207 "java/lang/UnsupportedOperationException"]
def wsL_law0_r6 : List Cond := [Cond.initialized "java/lang/UnsupportedOperationException", Cond.methodLink RX4 53 yX3_addStation, Cond.instanceMethod yX3_addStation, Cond.selects RX3 yX3_addStation yX3_addStation, Cond.code yX3_addStation cX3_addStation 3 (some .int), Cond.methodLink RL 76 yX5_station, Cond.instanceMethod yX5_station, Cond.selects RX5 yX5_station yX5_station, Cond.code yX5_station cX5_station 3 (some .int), Cond.fieldLink RX5 76 "DaySimulateModel" "stations" "I", Cond.methodLink RX5 72 yX5_isSpot, Cond.static yX5_isSpot, Cond.code yX5_isSpot cX5_isSpot 2 (some .boolean), Cond.methodLink RX5 68 yX5_in, Cond.static yX5_in, Cond.code yX5_in cX5_in 3 (some .boolean), Cond.methodLink RX5 79 yX5_throwing, Cond.instanceMethod yX5_throwing, Cond.selects RX5 yX5_throwing yX5_throwing, Cond.code yX5_throwing cX5_throwing 4 (some .boolean), Cond.fieldLink RX5 65 "DaySimulateModel" "thrown" "I", Cond.methodLink RL 77 yX5_thrown, Cond.instanceMethod yX5_thrown, Cond.selects RX5 yX5_thrown yX5_thrown]
def wsL_law0_r7 : List Cond := [Cond.code yX5_thrown cX5_thrown 1 (some .int), Cond.methodLink RL 80 yL_area, Cond.static yL_area, Cond.codeWith yL_area cL_area 6 (some .int) [(0, 12, 15, 13), (0, 12, 19, 15)], Cond.methodLink RL 17 yX4_area, Cond.instanceMethod yX4_area, Cond.selects RX4 yX4_area yX4_area, Cond.code yX4_area cX4_area 4 (some .int), Cond.fieldLink RX4 61 "DaySimulate$Town" "areas" "I", Cond.methodLink RX4 57 yX4_isWithin, Cond.static yX4_isWithin, Cond.code yX4_isWithin cX4_isWithin 3 (some .boolean), Cond.methodLink RX4 64 yX3_addArea, Cond.instanceMethod yX3_addArea, Cond.selects RX3 yX3_addArea yX3_addArea, Cond.code yX3_addArea cX3_addArea 4 (some .int), Cond.methodLink RL 83 yX5_area, Cond.instanceMethod yX5_area, Cond.selects RX5 yX5_area yX5_area, Cond.code yX5_area cX5_area 4 (some .int), Cond.fieldLink RX5 83 "DaySimulateModel" "areas" "I", Cond.methodLink RL 84 yL_unit, Cond.static yL_unit, Cond.codeWith yL_unit cL_unit 4 (some .int) [(0, 9, 12, 25), (0, 9, 15, 27), (0, 9, 18, 15)]]
def wsL_law0_r8 : List Cond := [Cond.classLink RL 25 "java/lang/IllegalArgumentException", Cond.classLink RL 27 "java/lang/IllegalStateException", Cond.methodLink RL 21 yX4_unit, Cond.instanceMethod yX4_unit, Cond.selects RX4 yX4_unit yX4_unit, Cond.code yX4_unit cX4_unit 2 (some .int), Cond.fieldLink RX4 81 "DaySimulate$Fleet" "units" "I", Cond.methodLink RX4 71 yX4_needKnown, Cond.static yX4_needKnown, Cond.code yX4_needKnown cX4_needKnown 1 none, Cond.classLink RX4 127 "java/lang/IllegalArgumentException", Cond.initialized "java/lang/IllegalArgumentException", Cond.methodLink RX4 74 yX1_hasRoomInAllVariants, Cond.instanceMethod yX1_hasRoomInAllVariants, Cond.selects RX1 yX1_hasRoomInAllVariants yX1_hasRoomInAllVariants, Cond.code yX1_hasRoomInAllVariants cX1_hasRoomInAllVariants 3 (some .boolean), Cond.methodLink RX1 20 yX1_countOthers, Cond.instanceMethod yX1_countOthers, Cond.selects RX1 yX1_countOthers yX1_countOthers, Cond.code yX1_countOthers cX1_countOthers 6 (some .int), Cond.methodLink RX4 78 yX4_needState, Cond.static yX4_needState, Cond.code yX4_needState cX4_needState 1 none, Cond.classLink RX4 202 "java/lang/IllegalStateException"]
def wsL_law0_r9 : List Cond := [Cond.initialized "java/lang/IllegalStateException", Cond.methodLink RX4 84 yX1_addUnit, Cond.instanceMethod yX1_addUnit, Cond.selects RX1 yX1_addUnit yX1_addUnit, Cond.code yX1_addUnit cX1_addUnit 3 (some .int), Cond.methodLink RL 87 yX5_unit, Cond.instanceMethod yX5_unit, Cond.selects RX5 yX5_unit yX5_unit, Cond.code yX5_unit cX5_unit 4 (some .int), Cond.fieldLink RX5 86 "DaySimulateModel" "units" "I", Cond.methodLink RX5 93 yX5_isFull, Cond.instanceMethod yX5_isFull, Cond.selects RX5 yX5_isFull yX5_isFull, Cond.code yX5_isFull cX5_isFull 4 (some .boolean), Cond.methodLink RX5 89 yX5_at, Cond.instanceMethod yX5_at, Cond.selects RX5 yX5_at yX5_at, Cond.code yX5_at cX5_at 6 (some .int), Cond.methodLink RL 88 yL_change, Cond.static yL_change, Cond.codeWith yL_change cL_change 5 (some .int) [(0, 7, 10, 25), (0, 7, 14, 27)], Cond.methodLink RL 29 yX4_change, Cond.instanceMethod yX4_change, Cond.selects RX4 yX4_change yX4_change]
def wsL_law0_r10 : List Cond := [Cond.code yX4_change cX4_change 4 none, Cond.fieldLink RX4 91 "DaySimulate$Fleet" "stationOf" "[[I", Cond.methodLink RX4 88 yX1_countOthers, Cond.methodLink RL 91 yX5_change, Cond.instanceMethod yX5_change, Cond.selects RX5 yX5_change yX5_change, Cond.code yX5_change cX5_change 5 none, Cond.methodLink RL 92 yL_rules, Cond.static yL_rules, Cond.codeWith yL_rules cL_rules 4 (some .int) [(0, 6, 9, 13)], Cond.methodLink RL 33 yX4_rules, Cond.instanceMethod yX4_rules, Cond.selects RX4 yX4_rules yX4_rules, Cond.code yX4_rules cX4_rules 3 none, Cond.methodLink RL 95 yX5_rules, Cond.instanceMethod yX5_rules, Cond.selects RX5 yX5_rules yX5_rules, Cond.code yX5_rules cX5_rules 3 none, Cond.methodLink RL 96 yL_run, Cond.static yL_run, Cond.codeWith yL_run cL_run 7 (some .int) [(0, 14, 17, 25), (0, 14, 21, 13), (0, 14, 25, 27)], Cond.methodLink RL 37 yX4_run, Cond.instanceMethod yX4_run, Cond.selects RX4 yX4_run yX4_run]
def wsL_law0_r11 : List Cond := [Cond.code yX4_run cX4_run 5 (some .int), Cond.methodLink RX4 95 yX4_lateOn, Cond.instanceMethod yX4_lateOn, Cond.selects RX4 yX4_lateOn yX4_lateOn, Cond.code yX4_lateOn cX4_lateOn 5 (some .int), Cond.fieldLink RX4 99 "DaySimulate$Play" "day" "LDaySimulate$Day;", Cond.methodLink RX4 176 yX0_draw, Cond.instanceMethod yX0_draw, Cond.selects RX0 yX0_draw yX0_draw, Cond.code yX0_draw cX0_draw 9 none, Cond.constant RX0 28 (1000003), Cond.methodLink RX0 29 yX0_mix, Cond.static yX0_mix, Cond.code yX0_mix cX0_mix 2 (some .int), Cond.constant RX0 38 (-2048144789), Cond.constant RX0 39 (-1028477387), Cond.methodLink RX0 33 yX3_areaOfDraw, Cond.instanceMethod yX3_areaOfDraw, Cond.selects RX3 yX3_areaOfDraw yX3_areaOfDraw, Cond.code yX3_areaOfDraw cX3_areaOfDraw 5 (some .int), Cond.methodLink RX3 37 Lib.Math.max.name, Cond.static Lib.Math.max.name, Cond.initialized "java/lang/Math", Cond.code Lib.Math.max.name Lib.Math.max.code 2 (some .int)]
def wsL_law0_r12 : List Cond := [Cond.methodLink RX4 180 yX2_begin, Cond.instanceMethod yX2_begin, Cond.selects RX2 yX2_begin yX2_begin, Cond.code yX2_begin cX2_begin 6 none, Cond.fieldLink RX2 56 "DaySimulate$Fleet" "units" "I", Cond.fieldLink RX2 59 "DaySimulate$Fleet" "stationOf" "[[I", Cond.methodLink RX2 62 yX2_post, Cond.instanceMethod yX2_post, Cond.selects RX2 yX2_post yX2_post, Cond.code yX2_post cX2_post 6 none, Cond.fieldLink RX2 66 "DaySimulate$Town" "areas" "I", Cond.methodLink RX2 71 yX3_wayMinutes, Cond.instanceMethod yX3_wayMinutes, Cond.selects RX3 yX3_wayMinutes yX3_wayMinutes, Cond.code yX3_wayMinutes cX3_wayMinutes 5 (some .int), Cond.methodLink RX3 43 Lib.Math.abs.name, Cond.static Lib.Math.abs.name, Cond.code Lib.Math.abs.name Lib.Math.abs.code 1 (some .int), Cond.methodLink RX4 184 yX2_playOut, Cond.instanceMethod yX2_playOut, Cond.selects RX2 yX2_playOut yX2_playOut, Cond.code yX2_playOut cX2_playOut 4 none, Cond.constant RX2 75 (2147483647), Cond.methodLink RX2 88 Lib.Math.min.name]
def wsL_law0_r13 : List Cond := [Cond.static Lib.Math.min.name, Cond.code Lib.Math.min.name Lib.Math.min.code 2 (some .int), Cond.methodLink RX2 94 Lib.Math.max.name, Cond.methodLink RX2 76 yX2_sendUnits, Cond.instanceMethod yX2_sendUnits, Cond.selects RX2 yX2_sendUnits yX2_sendUnits, Cond.code yX2_sendUnits cX2_sendUnits 5 none, Cond.fieldLink RX2 100 "DaySimulate$Day" "area" "[I", Cond.methodLink RX2 97 yX2_firstWaiting, Cond.instanceMethod yX2_firstWaiting, Cond.selects RX2 yX2_firstWaiting yX2_firstWaiting, Cond.code yX2_firstWaiting cX2_firstWaiting 5 (some .int), Cond.fieldLink RX2 53 "DaySimulate$Day" "calls" "I", Cond.fieldLink RX2 113 "DaySimulate$Day" "minute" "[I", Cond.methodLink RX2 116 yX2_goesAhead, Cond.instanceMethod yX2_goesAhead, Cond.selects RX2 yX2_goesAhead yX2_goesAhead, Cond.code yX2_goesAhead cX2_goesAhead 3 (some .boolean), Cond.fieldLink RX2 120 "DaySimulate$Day" "rank" "[I", Cond.methodLink RX2 103 yX2_nearestFree, Cond.instanceMethod yX2_nearestFree, Cond.selects RX2 yX2_nearestFree yX2_nearestFree, Cond.code yX2_nearestFree cX2_nearestFree 6 (some .int), Cond.methodLink RX2 123 yX2_isFree]
def wsL_law0_r14 : List Cond := [Cond.instanceMethod yX2_isFree, Cond.selects RX2 yX2_isFree yX2_isFree, Cond.code yX2_isFree cX2_isFree 3 (some .boolean), Cond.methodLink RX2 106 yX2_send, Cond.instanceMethod yX2_send, Cond.selects RX2 yX2_send yX2_send, Cond.code yX2_send cX2_send 5 none, Cond.fieldLink RX2 110 "DaySimulate$Day" "lasts" "[I", Cond.methodLink RX2 80 yX2_nextEvent, Cond.instanceMethod yX2_nextEvent, Cond.selects RX2 yX2_nextEvent yX2_nextEvent, Cond.code yX2_nextEvent cX2_nextEvent 4 (some .int), Cond.methodLink RX2 84 yX2_isAnyFree, Cond.instanceMethod yX2_isAnyFree, Cond.selects RX2 yX2_isAnyFree yX2_isAnyFree, Cond.code yX2_isAnyFree cX2_isAnyFree 3 (some .boolean), Cond.methodLink RX4 139 yX2_countLate, Cond.instanceMethod yX2_countLate, Cond.selects RX2 yX2_countLate yX2_countLate, Cond.code yX2_countLate cX2_countLate 4 (some .int), Cond.methodLink RX2 129 yX2_isLate, Cond.instanceMethod yX2_isLate, Cond.selects RX2 yX2_isLate yX2_isLate, Cond.code yX2_isLate cX2_isLate 3 (some .boolean)]
def wsL_law0_r15 : List Cond := [Cond.methodLink RX2 126 yX2_delay, Cond.instanceMethod yX2_delay, Cond.selects RX2 yX2_delay yX2_delay, Cond.code yX2_delay cX2_delay 2 (some .int), Cond.methodLink RL 99 yX5_run, Cond.instanceMethod yX5_run, Cond.selects RX5 yX5_run yX5_run, Cond.code yX5_run cX5_run 5 (some .int), Cond.methodLink RX5 141 yX5_isDay, Cond.static yX5_isDay, Cond.code yX5_isDay cX5_isDay 1 (some .boolean), Cond.methodLink RX5 144 yX5_play, Cond.instanceMethod yX5_play, Cond.selects RX5 yX5_play yX5_play, Cond.code yX5_play cX5_play 9 none, Cond.constant RX5 113 (100000000), Cond.fieldLink RX5 135 "DaySimulateModel" "missed" "I", Cond.methodLink RX5 118 yX5_draw, Cond.instanceMethod yX5_draw, Cond.selects RX5 yX5_draw yX5_draw, Cond.code yX5_draw cX5_draw 8 none, Cond.fieldLink RX5 99 "DaySimulateModel" "calls" "I", Cond.constant RX5 102 (1000003), Cond.methodLink RX5 103 yX5_mix]
def wsL_law0_r16 : List Cond := [Cond.static yX5_mix, Cond.code yX5_mix cX5_mix 2 (some .int), Cond.constant RX5 97 (-2048144789), Cond.constant RX5 98 (-1028477387), Cond.methodLink RX5 107 yX5_areaOf, Cond.instanceMethod yX5_areaOf, Cond.selects RX5 yX5_areaOf yX5_areaOf, Cond.code yX5_areaOf cX5_areaOf 5 (some .int), Cond.methodLink RX5 122 yX5_next, Cond.instanceMethod yX5_next, Cond.selects RX5 yX5_next yX5_next, Cond.code yX5_next cX5_next 6 (some .int), Cond.methodLink RX5 125 yX5_nearest, Cond.instanceMethod yX5_nearest, Cond.selects RX5 yX5_nearest yX5_nearest, Cond.code yX5_nearest cX5_nearest 8 (some .int), Cond.methodLink RX5 114 yX5_wayOf, Cond.instanceMethod yX5_wayOf, Cond.selects RX5 yX5_wayOf yX5_wayOf, Cond.code yX5_wayOf cX5_wayOf 4 (some .int), Cond.methodLink RX5 110 yX5_size, Cond.static yX5_size, Cond.code yX5_size cX5_size 1 (some .int), Cond.methodLink RX5 128 yX5_send]
def wsL_law0_r17 : List Cond := [Cond.instanceMethod yX5_send, Cond.selects RX5 yX5_send yX5_send, Cond.code yX5_send cX5_send 6 none, Cond.methodLink RX5 132 yX5_later, Cond.instanceMethod yX5_later, Cond.selects RX5 yX5_later yX5_later, Cond.code yX5_later cX5_later 4 (some .int), Cond.methodLink RX5 147 yX5_late, Cond.instanceMethod yX5_late, Cond.selects RX5 yX5_late yX5_late, Cond.code yX5_late cX5_late 3 (some .int), Cond.methodLink RX5 138 yX5_isLate, Cond.instanceMethod yX5_isLate, Cond.selects RX5 yX5_isLate yX5_isLate, Cond.code yX5_isLate cX5_isLate 2 (some .boolean), Cond.methodLink RL 100 yL_call, Cond.static yL_call, Cond.codeWith yL_call cL_call 5 (some .int) [(0, 10, 13, 25)], Cond.methodLink RL 41 yX4_call, Cond.instanceMethod yX4_call, Cond.selects RX4 yX4_call yX4_call, Cond.code yX4_call cX4_call 4 (some .int), Cond.fieldLink RX4 103 "DaySimulate$Day" "calls" "I", Cond.fieldLink RX4 108 "DaySimulate$Day" "minute" "[I"]
def wsL_law0_r18 : List Cond := [Cond.fieldLink RX4 112 "DaySimulate$Day" "area" "[I", Cond.fieldLink RX4 115 "DaySimulate$Day" "rank" "[I", Cond.fieldLink RX4 118 "DaySimulate$Play" "unitOf" "[I", Cond.methodLink RX4 121 yX2_delay, Cond.methodLink RX4 124 yX2_whyLate, Cond.instanceMethod yX2_whyLate, Cond.selects RX2 yX2_whyLate yX2_whyLate, Cond.code yX2_whyLate cX2_whyLate 3 (some .int), Cond.methodLink RL 102 yX5_call, Cond.instanceMethod yX5_call, Cond.selects RX5 yX5_call yX5_call, Cond.code yX5_call cX5_call 3 (some .int), Cond.methodLink RX5 151 yX5_reason, Cond.instanceMethod yX5_reason, Cond.selects RX5 yX5_reason yX5_reason, Cond.code yX5_reason cX5_reason 2 (some .int), Cond.methodLink RL 103 yL_share, Cond.static yL_share, Cond.codeWith yL_share cL_share 4 (some .int) [(0, 9, 12, 25), (0, 9, 15, 47)], Cond.classLink RL 47 "java/lang/ArithmeticException", Cond.methodLink RL 44 yX4_share, Cond.instanceMethod yX4_share, Cond.selects RX4 yX4_share yX4_share, Cond.code yX4_share cX4_share 3 (some .int)]
def wsL_law0_r19 : List Cond := [Cond.classLink RX4 134 "java/lang/ArithmeticException", Cond.initialized "java/lang/ArithmeticException", Cond.methodLink RX4 142 yX4_lowestTerm, Cond.static yX4_lowestTerm, Cond.code yX4_lowestTerm cX4_lowestTerm 4 (some .int), Cond.methodLink RX4 187 yX4_commonDivisor, Cond.static yX4_commonDivisor, Cond.code yX4_commonDivisor cX4_commonDivisor 6 (some .int), Cond.methodLink RX4 190 Lib.Math.max.name, Cond.methodLink RL 105 yX5_share, Cond.instanceMethod yX5_share, Cond.selects RX5 yX5_share yX5_share, Cond.code yX5_share cX5_share 3 (some .int), Cond.methodLink RX5 154 yX5_common, Cond.static yX5_common, Cond.code yX5_common cX5_common 10 (some .long), Cond.methodLink RL 106 yL_mean, Cond.static yL_mean, Cond.codeWith yL_mean cL_mean 3 (some .int) [(0, 8, 11, 47)], Cond.methodLink RL 49 yX4_mean, Cond.instanceMethod yX4_mean, Cond.selects RX4 yX4_mean yX4_mean, Cond.code yX4_mean cX4_mean 2 (some .int), Cond.constantLong RX4 156 (1000)]
def wsL_law0_r20 : List Cond := [Cond.methodLink RX4 146 yX2_countServed, Cond.instanceMethod yX2_countServed, Cond.selects RX2 yX2_countServed yX2_countServed, Cond.code yX2_countServed cX2_countServed 3 (some .int), Cond.methodLink RX4 152 yX2_sumOfDelays, Cond.instanceMethod yX2_sumOfDelays, Cond.selects RX2 yX2_sumOfDelays yX2_sumOfDelays, Cond.code yX2_sumOfDelays cX2_sumOfDelays 4 (some .long), Cond.methodLink RL 109 yX5_mean, Cond.instanceMethod yX5_mean, Cond.selects RX5 yX5_mean yX5_mean, Cond.code yX5_mean cX5_mean 4 (some .int), Cond.constantLong RX5 158 (1000), Cond.methodLink RL 110 yX4_missed, Cond.instanceMethod yX4_missed, Cond.selects RX4 yX4_missed yX4_missed, Cond.code yX4_missed cX4_missed 1 (some .int), Cond.fieldLink RX4 158 "DaySimulate$Play" "missedMinutes" "I", Cond.methodLink RL 113 yX5_missed, Cond.instanceMethod yX5_missed, Cond.selects RX5 yX5_missed yX5_missed, Cond.code yX5_missed cX5_missed 1 (some .int), Cond.methodLink RL 114 yL_work, Cond.static yL_work]
def wsL_law0_r21 : List Cond := [Cond.codeWith yL_work cL_work 4 (some .int) [(0, 9, 12, 25)], Cond.methodLink RL 53 yX4_work, Cond.instanceMethod yX4_work, Cond.selects RX4 yX4_work yX4_work, Cond.code yX4_work cX4_work 2 (some .int), Cond.fieldLink RX4 161 "DaySimulate$Play" "workOf" "[I", Cond.methodLink RL 116 yX5_work, Cond.instanceMethod yX5_work, Cond.selects RX5 yX5_work yX5_work, Cond.code yX5_work cX5_work 2 (some .int), Cond.methodLink RL 117 yX4_worst, Cond.instanceMethod yX4_worst, Cond.selects RX4 yX4_worst yX4_worst, Cond.code yX4_worst cX4_worst 1 (some .int), Cond.methodLink RX4 164 yX2_hourOfMostLate, Cond.instanceMethod yX2_hourOfMostLate, Cond.selects RX2 yX2_hourOfMostLate yX2_hourOfMostLate, Cond.code yX2_hourOfMostLate cX2_hourOfMostLate 5 (some .int), Cond.methodLink RL 120 yX5_worst, Cond.instanceMethod yX5_worst, Cond.selects RX5 yX5_worst yX5_worst, Cond.code yX5_worst cX5_worst 6 (some .int), Cond.methodLink RL 121 yL_arrived, Cond.static yL_arrived]
def wsL_law0_r22 : List Cond := [Cond.codeWith yL_arrived cL_arrived 4 (some .int) [(0, 9, 12, 13)], Cond.methodLink RL 56 yX4_arrived, Cond.instanceMethod yX4_arrived, Cond.selects RX4 yX4_arrived yX4_arrived, Cond.code yX4_arrived cX4_arrived 2 (some .int), Cond.methodLink RX4 167 yX2_countArrivedBy, Cond.instanceMethod yX2_countArrivedBy, Cond.selects RX2 yX2_countArrivedBy yX2_countArrivedBy, Cond.code yX2_countArrivedBy cX2_countArrivedBy 4 (some .int), Cond.methodLink RL 123 yX5_arrived, Cond.instanceMethod yX5_arrived, Cond.selects RX5 yX5_arrived yX5_arrived, Cond.code yX5_arrived cX5_arrived 4 (some .int), Cond.methodLink RL 124 yL_unlucky, Cond.static yL_unlucky, Cond.codeWith yL_unlucky cL_unlucky 8 (some .int) [(0, 16, 19, 25), (0, 16, 23, 13), (0, 16, 27, 27)], Cond.methodLink RL 59 yX4_unlucky, Cond.instanceMethod yX4_unlucky, Cond.selects RX4 yX4_unlucky yX4_unlucky, Cond.code yX4_unlucky cX4_unlucky 10 (some .int), Cond.methodLink RX4 170 yX2_forget, Cond.instanceMethod yX2_forget, Cond.selects RX2 yX2_forget yX2_forget, Cond.code yX2_forget cX2_forget 2 none]
def wsL_law0_r23 : List Cond := [Cond.methodLink RL 127 yX5_unlucky, Cond.instanceMethod yX5_unlucky, Cond.selects RX5 yX5_unlucky yX5_unlucky, Cond.code yX5_unlucky cX5_unlucky 10 (some .int), Cond.methodLink RX5 160 yX5_forget, Cond.instanceMethod yX5_forget, Cond.selects RX5 yX5_forget yX5_forget, Cond.code yX5_forget cX5_forget 2 none, Cond.methodLink RL 128 yL_compare, Cond.static yL_compare, Cond.codeWith yL_compare cL_compare 9 (some .int) [(0, 18, 21, 25), (0, 18, 25, 13), (0, 18, 29, 27)], Cond.methodLink RL 63 yX4_compare, Cond.instanceMethod yX4_compare, Cond.selects RX4 yX4_compare yX4_compare, Cond.code yX4_compare cX4_compare 12 (some .int), Cond.methodLink RX4 173 yX4_waysOfHeads, Cond.static yX4_waysOfHeads, Cond.code yX4_waysOfHeads cX4_waysOfHeads 5 (some .int), Cond.methodLink RL 131 yX5_compare, Cond.instanceMethod yX5_compare, Cond.selects RX5 yX5_compare yX5_compare, Cond.code yX5_compare cX5_compare 15 (some .int), Cond.methodLink RX5 163 yX5_tail, Cond.static yX5_tail]
def wsL_law0_r24 : List Cond := [Cond.code yX5_tail cX5_tail 7 (some .long)]
def wsL_law0 : List Cond := (wsL_law0_r1 ++ (wsL_law0_r2 ++ (wsL_law0_r3 ++ (wsL_law0_r4 ++ (wsL_law0_r5 ++ (wsL_law0_r6 ++ (wsL_law0_r7 ++ (wsL_law0_r8 ++ (wsL_law0_r9 ++ (wsL_law0_r10 ++ (wsL_law0_r11 ++ (wsL_law0_r12 ++ (wsL_law0_r13 ++ (wsL_law0_r14 ++ (wsL_law0_r15 ++ (wsL_law0_r16 ++ (wsL_law0_r17 ++ (wsL_law0_r18 ++ (wsL_law0_r19 ++ (wsL_law0_r20 ++ (wsL_law0_r21 ++ (wsL_law0_r22 ++ (wsL_law0_r23 ++ wsL_law0_r24))))))))))))))))))))))) ++ wsX40 ++ wsX50 ++ wsX30 ++ wsX10 ++ wsX20 ++ wsX00 ++ ([] : List Cond)
def wsL_law : List Cond := wsL_law0 ++ (vx_atS RX4 201 "java/lang/IndexOutOfBoundsException" ["java/lang/RuntimeException", "java/lang/Exception"]).filter goodWord ++ (vx_atS RX4 211 "java/lang/UnsupportedOperationException" ["java/lang/RuntimeException", "java/lang/Exception"]).filter goodWord ++ (vx_atS RX4 131 "java/lang/IllegalArgumentException" ["java/lang/RuntimeException", "java/lang/Exception"]).filter goodWord ++ (vx_atS RX4 206 "java/lang/IllegalStateException" ["java/lang/RuntimeException", "java/lang/Exception"]).filter goodWord ++ (vx_atS RX4 138 "java/lang/ArithmeticException" ["java/lang/RuntimeException", "java/lang/Exception"]).filter goodWord
set_option maxRecDepth 20000 in
theorem wsL_law_in0 : ∀ w ∈ wsL_law0, w ∈ lw_tbl := fun w h => (goodIn_p wsL_law0 [47, 50, 55, 90, 109, 115, 609, 226, 229, 232, 235, 308, 328, 691, 694, 697, 701, 687, 335, 338, 342, 705, 351, 354, 374, 378, 381, 401, 709, 713, 717, 408, 721, 416, 725, 423, 427, 431, 435, 441, 444, 448, 452, 456, 459, 463, 495, 468, 472, 476, 480, 484, 488, 492, 499, 504, 213, 217, 729, 732, 736, 740, 744, 750, 755, 759, 763, 766, 770, 774, 778, 782, 511, 516, 786, 790, 525, 544, 547, 794, 797, 555, 559, 564, 801, 201, 806, 572, 810, 205, 209, 814, 579, 583, 818, 590, 594, 822, 826, 601, 604, 830, 833] (by decide +kernel) (by decide +kernel) w h).1
theorem wsL_law_x0 : ∀ w ∈ (vx_atS RX4 201 "java/lang/IndexOutOfBoundsException" ["java/lang/RuntimeException", "java/lang/Exception"]).filter goodWord, w ∈ lw_tbl := by decide +kernel
theorem wsL_law_x1 : ∀ w ∈ (vx_atS RX4 211 "java/lang/UnsupportedOperationException" ["java/lang/RuntimeException", "java/lang/Exception"]).filter goodWord, w ∈ lw_tbl := by decide +kernel
theorem wsL_law_x2 : ∀ w ∈ (vx_atS RX4 131 "java/lang/IllegalArgumentException" ["java/lang/RuntimeException", "java/lang/Exception"]).filter goodWord, w ∈ lw_tbl := by decide +kernel
theorem wsL_law_x3 : ∀ w ∈ (vx_atS RX4 206 "java/lang/IllegalStateException" ["java/lang/RuntimeException", "java/lang/Exception"]).filter goodWord, w ∈ lw_tbl := by decide +kernel
theorem wsL_law_x4 : ∀ w ∈ (vx_atS RX4 138 "java/lang/ArithmeticException" ["java/lang/RuntimeException", "java/lang/Exception"]).filter goodWord, w ∈ lw_tbl := by decide +kernel
theorem wsL_law_in : ∀ w ∈ wsL_law, w ∈ lw_tbl := fun w h => (List.mem_append.mp h).elim (fun h => (List.mem_append.mp h).elim (fun h => (List.mem_append.mp h).elim (fun h => (List.mem_append.mp h).elim (fun h => (List.mem_append.mp h).elim (fun h => wsL_law_in0 w h) (fun h => wsL_law_x0 w h)) (fun h => wsL_law_x1 w h)) (fun h => wsL_law_x2 w h)) (fun h => wsL_law_x3 w h)) (fun h => wsL_law_x4 w h)
theorem inlX0 : ∀ w ∈ wsX00, w ∈ wsL_law := fun _ h => List.mem_append_left _ (List.mem_append_left _ (List.mem_append_left _ (List.mem_append_left _ (List.mem_append_left _ (List.mem_append_left _ (List.mem_append_right _ h))))))
theorem inX0 : ∀ w ∈ wsX00, w ∈ lw_tbl := fun w h => wsL_law_in w (inlX0 w h)
theorem inlX1 : ∀ w ∈ wsX10, w ∈ wsL_law := fun _ h => List.mem_append_left _ (List.mem_append_left _ (List.mem_append_left _ (List.mem_append_left _ (List.mem_append_left _ (List.mem_append_left _ (List.mem_append_left _ (List.mem_append_left _ (List.mem_append_right _ h))))))))
theorem inX1 : ∀ w ∈ wsX10, w ∈ lw_tbl := fun w h => wsL_law_in w (inlX1 w h)
theorem inlX2 : ∀ w ∈ wsX20, w ∈ wsL_law := fun _ h => List.mem_append_left _ (List.mem_append_left _ (List.mem_append_left _ (List.mem_append_left _ (List.mem_append_left _ (List.mem_append_left _ (List.mem_append_left _ (List.mem_append_right _ h)))))))
theorem inX2 : ∀ w ∈ wsX20, w ∈ lw_tbl := fun w h => wsL_law_in w (inlX2 w h)
theorem inlX3 : ∀ w ∈ wsX30, w ∈ wsL_law := fun _ h => List.mem_append_left _ (List.mem_append_left _ (List.mem_append_left _ (List.mem_append_left _ (List.mem_append_left _ (List.mem_append_left _ (List.mem_append_left _ (List.mem_append_left _ (List.mem_append_left _ (List.mem_append_right _ h)))))))))
theorem inX3 : ∀ w ∈ wsX30, w ∈ lw_tbl := fun w h => wsL_law_in w (inlX3 w h)
theorem inlX4 : ∀ w ∈ wsX40, w ∈ wsL_law := fun _ h => List.mem_append_left _ (List.mem_append_left _ (List.mem_append_left _ (List.mem_append_left _ (List.mem_append_left _ (List.mem_append_left _ (List.mem_append_left _ (List.mem_append_left _ (List.mem_append_left _ (List.mem_append_left _ (List.mem_append_left _ (List.mem_append_right _ h)))))))))))
theorem inX4 : ∀ w ∈ wsX40, w ∈ lw_tbl := fun w h => wsL_law_in w (inlX4 w h)
theorem inlX5 : ∀ w ∈ wsX50, w ∈ wsL_law := fun _ h => List.mem_append_left _ (List.mem_append_left _ (List.mem_append_left _ (List.mem_append_left _ (List.mem_append_left _ (List.mem_append_left _ (List.mem_append_left _ (List.mem_append_left _ (List.mem_append_left _ (List.mem_append_left _ (List.mem_append_right _ h))))))))))
theorem inX5 : ∀ w ∈ wsX50, w ∈ lw_tbl := fun w h => wsL_law_in w (inlX5 w h)
theorem inJ9 : ∀ w ∈ wsJ90, w ∈ lw_tbl := by decide +kernel
theorem inJ0 : ∀ w ∈ wsJ00, w ∈ lw_tbl := by decide +kernel
theorem dX0_init_0 : decode cX0_init 0 = .ok (.aload_n 0, 1) := by decide +kernel
theorem dX0_init_1 : decode cX0_init 1 = .ok (.invokespecial 3, 3) := by decide +kernel
theorem dX0_init_4 : decode cX0_init 4 = .ok (.aload_n 0, 1) := by decide +kernel
theorem dX0_init_5 : decode cX0_init 5 = .ok (.bipush 60, 2) := by decide +kernel
theorem dX0_init_7 : decode cX0_init 7 = .ok (.newarray .int, 2) := by decide +kernel
theorem dX0_init_9 : decode cX0_init 9 = .ok (.putfield 9, 3) := by decide +kernel
theorem dX0_init_12 : decode cX0_init 12 = .ok (.aload_n 0, 1) := by decide +kernel
theorem dX0_init_13 : decode cX0_init 13 = .ok (.bipush 60, 2) := by decide +kernel
theorem dX0_init_15 : decode cX0_init 15 = .ok (.newarray .int, 2) := by decide +kernel
theorem dX0_init_17 : decode cX0_init 17 = .ok (.putfield 15, 3) := by decide +kernel
theorem dX0_init_20 : decode cX0_init 20 = .ok (.aload_n 0, 1) := by decide +kernel
theorem dX0_init_21 : decode cX0_init 21 = .ok (.bipush 60, 2) := by decide +kernel
theorem dX0_init_23 : decode cX0_init 23 = .ok (.newarray .int, 2) := by decide +kernel
theorem dX0_init_25 : decode cX0_init 25 = .ok (.putfield 18, 3) := by decide +kernel
theorem dX0_init_28 : decode cX0_init 28 = .ok (.aload_n 0, 1) := by decide +kernel
theorem dX0_init_29 : decode cX0_init 29 = .ok (.bipush 60, 2) := by decide +kernel
theorem dX0_init_31 : decode cX0_init 31 = .ok (.newarray .int, 2) := by decide +kernel
theorem dX0_init_33 : decode cX0_init 33 = .ok (.putfield 21, 3) := by decide +kernel
theorem dX0_init_36 : decode cX0_init 36 = .ok (.aload_n 0, 1) := by decide +kernel
theorem dX0_init_37 : decode cX0_init 37 = .ok (.iconst 0, 1) := by decide +kernel
theorem dX0_init_38 : decode cX0_init 38 = .ok (.putfield 24, 3) := by decide +kernel
theorem dX0_init_41 : decode cX0_init 41 = .ok (.return_, 1) := by decide +kernel
set_option maxRecDepth 20000 in
theorem ggX0_draw_X0_mix : GoodIn wsX0_draw wsX0_mix := goodIn_r _ [10, 11, 12] (by decide +kernel) (by decide +kernel)
set_option maxRecDepth 20000 in
theorem gX0_draw_X0_mix : GoodIn wsX0_draw (va_wsS RX0 29 yX0_mix wsX0_mix) := goodIn_app (goodIn_of _ (by decide +kernel)) ggX0_draw_X0_mix
set_option maxRecDepth 20000 in
theorem ggX0_draw_X3_areaOfDraw : GoodIn wsX0_draw wsX3_areaOfDraw := goodIn_r _ [17, 18, 19, 20, 21, 22, 23, 24, 30, 31, 32, 33, 34, 35, 36, 37] (by decide +kernel) (by decide +kernel)
set_option maxRecDepth 20000 in
theorem gX0_draw_X3_areaOfDraw : GoodIn wsX0_draw (wsV RX0 33 RX3 yX3_areaOfDraw wsX3_areaOfDraw) := goodIn_app (goodIn_of _ (by decide +kernel)) ggX0_draw_X3_areaOfDraw
theorem dX0_draw_0 : decode cX0_draw 0 = .ok (.aload_n 0, 1) := by decide +kernel
theorem dX0_draw_1 : decode cX0_draw 1 = .ok (.iload 4, 2) := by decide +kernel
theorem dX0_draw_3 : decode cX0_draw 3 = .ok (.putfield 24, 3) := by decide +kernel
theorem dX0_draw_6 : decode cX0_draw 6 = .ok (.iconst 0, 1) := by decide +kernel
theorem dX0_draw_7 : decode cX0_draw 7 = .ok (.istore 5, 2) := by decide +kernel
theorem dX0_draw_9 : decode cX0_draw 9 = .ok (.iload 5, 2) := by decide +kernel
theorem dX0_draw_11 : decode cX0_draw 11 = .ok (.iload 4, 2) := by decide +kernel
theorem dX0_draw_13 : decode cX0_draw 13 = .ok (.if_icmp .ge 103, 3) := by decide +kernel
theorem dX0_draw_16 : decode cX0_draw 16 = .ok (.iload_n 2, 1) := by decide +kernel
theorem dX0_draw_17 : decode cX0_draw 17 = .ok (.ldc 28, 2) := by decide +kernel
theorem dX0_draw_19 : decode cX0_draw 19 = .ok (.iload_n 3, 1) := by decide +kernel
theorem dX0_draw_20 : decode cX0_draw 20 = .ok (.imul, 1) := by decide +kernel
theorem dX0_draw_21 : decode cX0_draw 21 = .ok (.iadd, 1) := by decide +kernel
theorem dX0_draw_22 : decode cX0_draw 22 = .ok (.bipush 31, 2) := by decide +kernel
theorem dX0_draw_24 : decode cX0_draw 24 = .ok (.iload 5, 2) := by decide +kernel
theorem dX0_draw_26 : decode cX0_draw 26 = .ok (.imul, 1) := by decide +kernel
theorem dX0_draw_27 : decode cX0_draw 27 = .ok (.iadd, 1) := by decide +kernel
theorem dX0_draw_28 : decode cX0_draw 28 = .ok (.invokestatic 29, 3) := by decide +kernel
theorem dX0_draw_31 : decode cX0_draw 31 = .ok (.istore 6, 2) := by decide +kernel
theorem dX0_draw_33 : decode cX0_draw 33 = .ok (.iload 6, 2) := by decide +kernel
theorem dX0_draw_35 : decode cX0_draw 35 = .ok (.iconst 1, 1) := by decide +kernel
theorem dX0_draw_36 : decode cX0_draw 36 = .ok (.iadd, 1) := by decide +kernel
theorem dX0_draw_37 : decode cX0_draw 37 = .ok (.invokestatic 29, 3) := by decide +kernel
theorem dX0_draw_40 : decode cX0_draw 40 = .ok (.istore 7, 2) := by decide +kernel
theorem dX0_draw_42 : decode cX0_draw 42 = .ok (.iload 7, 2) := by decide +kernel
theorem dX0_draw_44 : decode cX0_draw 44 = .ok (.iconst 1, 1) := by decide +kernel
theorem dX0_draw_45 : decode cX0_draw 45 = .ok (.iadd, 1) := by decide +kernel
theorem dX0_draw_46 : decode cX0_draw 46 = .ok (.invokestatic 29, 3) := by decide +kernel
theorem dX0_draw_49 : decode cX0_draw 49 = .ok (.istore 8, 2) := by decide +kernel
theorem dX0_draw_51 : decode cX0_draw 51 = .ok (.aload_n 0, 1) := by decide +kernel
theorem dX0_draw_52 : decode cX0_draw 52 = .ok (.getfield 9, 3) := by decide +kernel
theorem dX0_draw_55 : decode cX0_draw 55 = .ok (.iload 5, 2) := by decide +kernel
theorem dX0_draw_57 : decode cX0_draw 57 = .ok (.iload 6, 2) := by decide +kernel
theorem dX0_draw_59 : decode cX0_draw 59 = .ok (.iconst 4, 1) := by decide +kernel
theorem dX0_draw_60 : decode cX0_draw 60 = .ok (.iushr, 1) := by decide +kernel
theorem dX0_draw_61 : decode cX0_draw 61 = .ok (.sipush 1440, 3) := by decide +kernel
theorem dX0_draw_64 : decode cX0_draw 64 = .ok (.irem, 1) := by decide +kernel
theorem dX0_draw_65 : decode cX0_draw 65 = .ok (.iastore, 1) := by decide +kernel
theorem dX0_draw_66 : decode cX0_draw 66 = .ok (.aload_n 0, 1) := by decide +kernel
theorem dX0_draw_67 : decode cX0_draw 67 = .ok (.getfield 18, 3) := by decide +kernel
theorem dX0_draw_70 : decode cX0_draw 70 = .ok (.iload 5, 2) := by decide +kernel
theorem dX0_draw_72 : decode cX0_draw 72 = .ok (.iload 7, 2) := by decide +kernel
theorem dX0_draw_74 : decode cX0_draw 74 = .ok (.iconst 3, 1) := by decide +kernel
theorem dX0_draw_75 : decode cX0_draw 75 = .ok (.iand, 1) := by decide +kernel
theorem dX0_draw_76 : decode cX0_draw 76 = .ok (.iastore, 1) := by decide +kernel
theorem dX0_draw_77 : decode cX0_draw 77 = .ok (.aload_n 0, 1) := by decide +kernel
theorem dX0_draw_78 : decode cX0_draw 78 = .ok (.getfield 21, 3) := by decide +kernel
theorem dX0_draw_81 : decode cX0_draw 81 = .ok (.iload 5, 2) := by decide +kernel
theorem dX0_draw_83 : decode cX0_draw 83 = .ok (.bipush 10, 2) := by decide +kernel
theorem dX0_draw_85 : decode cX0_draw 85 = .ok (.iload 7, 2) := by decide +kernel
theorem dX0_draw_87 : decode cX0_draw 87 = .ok (.bipush 8, 2) := by decide +kernel
theorem dX0_draw_89 : decode cX0_draw 89 = .ok (.iushr, 1) := by decide +kernel
theorem dX0_draw_90 : decode cX0_draw 90 = .ok (.bipush 90, 2) := by decide +kernel
theorem dX0_draw_92 : decode cX0_draw 92 = .ok (.irem, 1) := by decide +kernel
theorem dX0_draw_93 : decode cX0_draw 93 = .ok (.iadd, 1) := by decide +kernel
theorem dX0_draw_94 : decode cX0_draw 94 = .ok (.iastore, 1) := by decide +kernel
theorem dX0_draw_95 : decode cX0_draw 95 = .ok (.aload_n 0, 1) := by decide +kernel
theorem dX0_draw_96 : decode cX0_draw 96 = .ok (.getfield 15, 3) := by decide +kernel
theorem dX0_draw_99 : decode cX0_draw 99 = .ok (.iload 5, 2) := by decide +kernel
theorem dX0_draw_101 : decode cX0_draw 101 = .ok (.aload_n 1, 1) := by decide +kernel
theorem dX0_draw_102 : decode cX0_draw 102 = .ok (.iload 8, 2) := by decide +kernel
theorem dX0_draw_104 : decode cX0_draw 104 = .ok (.iconst 4, 1) := by decide +kernel
theorem dX0_draw_105 : decode cX0_draw 105 = .ok (.iushr, 1) := by decide +kernel
theorem dX0_draw_106 : decode cX0_draw 106 = .ok (.invokevirtual 33, 3) := by decide +kernel
theorem dX0_draw_109 : decode cX0_draw 109 = .ok (.iastore, 1) := by decide +kernel
theorem dX0_draw_110 : decode cX0_draw 110 = .ok (.iinc 5 1, 3) := by decide +kernel
theorem dX0_draw_113 : decode cX0_draw 113 = .ok (.goto (-104), 3) := by decide +kernel
theorem dX0_draw_116 : decode cX0_draw 116 = .ok (.return_, 1) := by decide +kernel
theorem dX0_mix_0 : decode cX0_mix 0 = .ok (.iload_n 0, 1) := by decide +kernel
theorem dX0_mix_1 : decode cX0_mix 1 = .ok (.istore_n 1, 1) := by decide +kernel
theorem dX0_mix_2 : decode cX0_mix 2 = .ok (.iload_n 1, 1) := by decide +kernel
theorem dX0_mix_3 : decode cX0_mix 3 = .ok (.iload_n 1, 1) := by decide +kernel
theorem dX0_mix_4 : decode cX0_mix 4 = .ok (.bipush 15, 2) := by decide +kernel
theorem dX0_mix_6 : decode cX0_mix 6 = .ok (.iushr, 1) := by decide +kernel
theorem dX0_mix_7 : decode cX0_mix 7 = .ok (.ixor, 1) := by decide +kernel
theorem dX0_mix_8 : decode cX0_mix 8 = .ok (.ldc 38, 2) := by decide +kernel
theorem dX0_mix_10 : decode cX0_mix 10 = .ok (.imul, 1) := by decide +kernel
theorem dX0_mix_11 : decode cX0_mix 11 = .ok (.istore_n 1, 1) := by decide +kernel
theorem dX0_mix_12 : decode cX0_mix 12 = .ok (.iload_n 1, 1) := by decide +kernel
theorem dX0_mix_13 : decode cX0_mix 13 = .ok (.iload_n 1, 1) := by decide +kernel
theorem dX0_mix_14 : decode cX0_mix 14 = .ok (.bipush 13, 2) := by decide +kernel
theorem dX0_mix_16 : decode cX0_mix 16 = .ok (.iushr, 1) := by decide +kernel
theorem dX0_mix_17 : decode cX0_mix 17 = .ok (.ixor, 1) := by decide +kernel
theorem dX0_mix_18 : decode cX0_mix 18 = .ok (.ldc 39, 2) := by decide +kernel
theorem dX0_mix_20 : decode cX0_mix 20 = .ok (.imul, 1) := by decide +kernel
theorem dX0_mix_21 : decode cX0_mix 21 = .ok (.istore_n 1, 1) := by decide +kernel
theorem dX0_mix_22 : decode cX0_mix 22 = .ok (.iload_n 1, 1) := by decide +kernel
theorem dX0_mix_23 : decode cX0_mix 23 = .ok (.iload_n 1, 1) := by decide +kernel
theorem dX0_mix_24 : decode cX0_mix 24 = .ok (.bipush 16, 2) := by decide +kernel
theorem dX0_mix_26 : decode cX0_mix 26 = .ok (.iushr, 1) := by decide +kernel
theorem dX0_mix_27 : decode cX0_mix 27 = .ok (.ixor, 1) := by decide +kernel
theorem dX0_mix_28 : decode cX0_mix 28 = .ok (.ireturn, 1) := by decide +kernel
theorem dX1_init_0 : decode cX1_init 0 = .ok (.aload_n 0, 1) := by decide +kernel
theorem dX1_init_1 : decode cX1_init 1 = .ok (.invokespecial 3, 3) := by decide +kernel
theorem dX1_init_4 : decode cX1_init 4 = .ok (.aload_n 0, 1) := by decide +kernel
theorem dX1_init_5 : decode cX1_init 5 = .ok (.iconst 4, 1) := by decide +kernel
theorem dX1_init_6 : decode cX1_init 6 = .ok (.bipush 12, 2) := by decide +kernel
theorem dX1_init_8 : decode cX1_init 8 = .ok (.multianewarray 9 2, 4) := by decide +kernel
theorem dX1_init_12 : decode cX1_init 12 = .ok (.putfield 11, 3) := by decide +kernel
theorem dX1_init_15 : decode cX1_init 15 = .ok (.aload_n 0, 1) := by decide +kernel
theorem dX1_init_16 : decode cX1_init 16 = .ok (.iconst 0, 1) := by decide +kernel
theorem dX1_init_17 : decode cX1_init 17 = .ok (.putfield 16, 3) := by decide +kernel
theorem dX1_init_20 : decode cX1_init 20 = .ok (.return_, 1) := by decide +kernel
theorem dX1_addUnit_0 : decode cX1_addUnit 0 = .ok (.iconst 0, 1) := by decide +kernel
theorem dX1_addUnit_1 : decode cX1_addUnit 1 = .ok (.istore_n 2, 1) := by decide +kernel
theorem dX1_addUnit_2 : decode cX1_addUnit 2 = .ok (.iload_n 2, 1) := by decide +kernel
theorem dX1_addUnit_3 : decode cX1_addUnit 3 = .ok (.iconst 4, 1) := by decide +kernel
theorem dX1_addUnit_4 : decode cX1_addUnit 4 = .ok (.if_icmp .ge 21, 3) := by decide +kernel
theorem dX1_addUnit_7 : decode cX1_addUnit 7 = .ok (.aload_n 0, 1) := by decide +kernel
theorem dX1_addUnit_8 : decode cX1_addUnit 8 = .ok (.getfield 11, 3) := by decide +kernel
theorem dX1_addUnit_11 : decode cX1_addUnit 11 = .ok (.iload_n 2, 1) := by decide +kernel
theorem dX1_addUnit_12 : decode cX1_addUnit 12 = .ok (.aaload, 1) := by decide +kernel
theorem dX1_addUnit_13 : decode cX1_addUnit 13 = .ok (.aload_n 0, 1) := by decide +kernel
theorem dX1_addUnit_14 : decode cX1_addUnit 14 = .ok (.getfield 16, 3) := by decide +kernel
theorem dX1_addUnit_17 : decode cX1_addUnit 17 = .ok (.iload_n 1, 1) := by decide +kernel
theorem dX1_addUnit_18 : decode cX1_addUnit 18 = .ok (.iastore, 1) := by decide +kernel
theorem dX1_addUnit_19 : decode cX1_addUnit 19 = .ok (.iinc 2 1, 3) := by decide +kernel
theorem dX1_addUnit_22 : decode cX1_addUnit 22 = .ok (.goto (-20), 3) := by decide +kernel
theorem dX1_addUnit_25 : decode cX1_addUnit 25 = .ok (.aload_n 0, 1) := by decide +kernel
theorem dX1_addUnit_26 : decode cX1_addUnit 26 = .ok (.dup, 1) := by decide +kernel
theorem dX1_addUnit_27 : decode cX1_addUnit 27 = .ok (.getfield 16, 3) := by decide +kernel
theorem dX1_addUnit_30 : decode cX1_addUnit 30 = .ok (.dup_x1, 1) := by decide +kernel
theorem dX1_addUnit_31 : decode cX1_addUnit 31 = .ok (.iconst 1, 1) := by decide +kernel
theorem dX1_addUnit_32 : decode cX1_addUnit 32 = .ok (.iadd, 1) := by decide +kernel
theorem dX1_addUnit_33 : decode cX1_addUnit 33 = .ok (.putfield 16, 3) := by decide +kernel
theorem dX1_addUnit_36 : decode cX1_addUnit 36 = .ok (.ireturn, 1) := by decide +kernel
set_option maxRecDepth 20000 in
theorem ggX1_hasRoomInAllVariants_X1_countOthers : GoodIn wsX1_hasRoomInAllVariants wsX1_countOthers := goodIn_r _ [5, 6, 7, 8, 9] (by decide +kernel) (by decide +kernel)
set_option maxRecDepth 20000 in
theorem gX1_hasRoomInAllVariants_X1_countOthers : GoodIn wsX1_hasRoomInAllVariants (wsV RX1 20 RX1 yX1_countOthers wsX1_countOthers) := goodIn_app (goodIn_of _ (by decide +kernel)) ggX1_hasRoomInAllVariants_X1_countOthers
theorem dX1_hasRoomInAllVariants_0 : decode cX1_hasRoomInAllVariants 0 = .ok (.iconst 0, 1) := by decide +kernel
theorem dX1_hasRoomInAllVariants_1 : decode cX1_hasRoomInAllVariants 1 = .ok (.istore_n 2, 1) := by decide +kernel
theorem dX1_hasRoomInAllVariants_2 : decode cX1_hasRoomInAllVariants 2 = .ok (.iload_n 2, 1) := by decide +kernel
theorem dX1_hasRoomInAllVariants_3 : decode cX1_hasRoomInAllVariants 3 = .ok (.iconst 4, 1) := by decide +kernel
theorem dX1_hasRoomInAllVariants_4 : decode cX1_hasRoomInAllVariants 4 = .ok (.if_icmp .ge 22, 3) := by decide +kernel
theorem dX1_hasRoomInAllVariants_7 : decode cX1_hasRoomInAllVariants 7 = .ok (.aload_n 0, 1) := by decide +kernel
theorem dX1_hasRoomInAllVariants_8 : decode cX1_hasRoomInAllVariants 8 = .ok (.iload_n 2, 1) := by decide +kernel
theorem dX1_hasRoomInAllVariants_9 : decode cX1_hasRoomInAllVariants 9 = .ok (.iload_n 1, 1) := by decide +kernel
theorem dX1_hasRoomInAllVariants_10 : decode cX1_hasRoomInAllVariants 10 = .ok (.iconst (-1), 1) := by decide +kernel
theorem dX1_hasRoomInAllVariants_11 : decode cX1_hasRoomInAllVariants 11 = .ok (.invokevirtual 20, 3) := by decide +kernel
theorem dX1_hasRoomInAllVariants_14 : decode cX1_hasRoomInAllVariants 14 = .ok (.iconst 4, 1) := by decide +kernel
theorem dX1_hasRoomInAllVariants_15 : decode cX1_hasRoomInAllVariants 15 = .ok (.if_icmp .lt 5, 3) := by decide +kernel
theorem dX1_hasRoomInAllVariants_18 : decode cX1_hasRoomInAllVariants 18 = .ok (.iconst 0, 1) := by decide +kernel
theorem dX1_hasRoomInAllVariants_19 : decode cX1_hasRoomInAllVariants 19 = .ok (.ireturn, 1) := by decide +kernel
theorem dX1_hasRoomInAllVariants_20 : decode cX1_hasRoomInAllVariants 20 = .ok (.iinc 2 1, 3) := by decide +kernel
theorem dX1_hasRoomInAllVariants_23 : decode cX1_hasRoomInAllVariants 23 = .ok (.goto (-21), 3) := by decide +kernel
theorem dX1_hasRoomInAllVariants_26 : decode cX1_hasRoomInAllVariants 26 = .ok (.iconst 1, 1) := by decide +kernel
theorem dX1_hasRoomInAllVariants_27 : decode cX1_hasRoomInAllVariants 27 = .ok (.ireturn, 1) := by decide +kernel
theorem dX1_countOthers_0 : decode cX1_countOthers 0 = .ok (.iconst 0, 1) := by decide +kernel
theorem dX1_countOthers_1 : decode cX1_countOthers 1 = .ok (.istore 4, 2) := by decide +kernel
theorem dX1_countOthers_3 : decode cX1_countOthers 3 = .ok (.iconst 0, 1) := by decide +kernel
theorem dX1_countOthers_4 : decode cX1_countOthers 4 = .ok (.istore 5, 2) := by decide +kernel
theorem dX1_countOthers_6 : decode cX1_countOthers 6 = .ok (.iload 5, 2) := by decide +kernel
theorem dX1_countOthers_8 : decode cX1_countOthers 8 = .ok (.aload_n 0, 1) := by decide +kernel
theorem dX1_countOthers_9 : decode cX1_countOthers 9 = .ok (.getfield 16, 3) := by decide +kernel
theorem dX1_countOthers_12 : decode cX1_countOthers 12 = .ok (.if_icmp .ge 31, 3) := by decide +kernel
theorem dX1_countOthers_15 : decode cX1_countOthers 15 = .ok (.iload 5, 2) := by decide +kernel
theorem dX1_countOthers_17 : decode cX1_countOthers 17 = .ok (.iload_n 3, 1) := by decide +kernel
theorem dX1_countOthers_18 : decode cX1_countOthers 18 = .ok (.if_icmp .eq 19, 3) := by decide +kernel
theorem dX1_countOthers_21 : decode cX1_countOthers 21 = .ok (.aload_n 0, 1) := by decide +kernel
theorem dX1_countOthers_22 : decode cX1_countOthers 22 = .ok (.getfield 11, 3) := by decide +kernel
theorem dX1_countOthers_25 : decode cX1_countOthers 25 = .ok (.iload_n 1, 1) := by decide +kernel
theorem dX1_countOthers_26 : decode cX1_countOthers 26 = .ok (.aaload, 1) := by decide +kernel
theorem dX1_countOthers_27 : decode cX1_countOthers 27 = .ok (.iload 5, 2) := by decide +kernel
theorem dX1_countOthers_29 : decode cX1_countOthers 29 = .ok (.iaload, 1) := by decide +kernel
theorem dX1_countOthers_30 : decode cX1_countOthers 30 = .ok (.iload_n 2, 1) := by decide +kernel
theorem dX1_countOthers_31 : decode cX1_countOthers 31 = .ok (.if_icmp .ne 6, 3) := by decide +kernel
theorem dX1_countOthers_34 : decode cX1_countOthers 34 = .ok (.iinc 4 1, 3) := by decide +kernel
theorem dX1_countOthers_37 : decode cX1_countOthers 37 = .ok (.iinc 5 1, 3) := by decide +kernel
theorem dX1_countOthers_40 : decode cX1_countOthers 40 = .ok (.goto (-34), 3) := by decide +kernel
theorem dX1_countOthers_43 : decode cX1_countOthers 43 = .ok (.iload 4, 2) := by decide +kernel
theorem dX1_countOthers_45 : decode cX1_countOthers 45 = .ok (.ireturn, 1) := by decide +kernel
set_option maxRecDepth 20000 in
theorem ggX2_init_X0_init : GoodIn wsX2_init wsX0_init := goodIn_r _ [22, 23, 2, 3, 8, 24, 25, 26, 27, 28, 29, 30, 31, 32, 33] (by decide +kernel) (by decide +kernel)
set_option maxRecDepth 20000 in
theorem gX2_init_X0_init_n11 : GoodIn wsX2_init (wsX0_init) := ggX2_init_X0_init
theorem dX2_init_0 : decode cX2_init 0 = .ok (.aload_n 0, 1) := by decide +kernel
theorem dX2_init_1 : decode cX2_init 1 = .ok (.invokespecial 3, 3) := by decide +kernel
theorem dX2_init_4 : decode cX2_init 4 = .ok (.aload_n 0, 1) := by decide +kernel
theorem dX2_init_5 : decode cX2_init 5 = .ok (.new 9, 3) := by decide +kernel
theorem dX2_init_8 : decode cX2_init 8 = .ok (.dup, 1) := by decide +kernel
theorem dX2_init_9 : decode cX2_init 9 = .ok (.invokespecial 11, 3) := by decide +kernel
theorem dX2_init_12 : decode cX2_init 12 = .ok (.putfield 12, 3) := by decide +kernel
theorem dX2_init_15 : decode cX2_init 15 = .ok (.aload_n 0, 1) := by decide +kernel
theorem dX2_init_16 : decode cX2_init 16 = .ok (.bipush 60, 2) := by decide +kernel
theorem dX2_init_18 : decode cX2_init 18 = .ok (.newarray .int, 2) := by decide +kernel
theorem dX2_init_20 : decode cX2_init 20 = .ok (.putfield 18, 3) := by decide +kernel
theorem dX2_init_23 : decode cX2_init 23 = .ok (.aload_n 0, 1) := by decide +kernel
theorem dX2_init_24 : decode cX2_init 24 = .ok (.bipush 60, 2) := by decide +kernel
theorem dX2_init_26 : decode cX2_init 26 = .ok (.newarray .int, 2) := by decide +kernel
theorem dX2_init_28 : decode cX2_init 28 = .ok (.putfield 22, 3) := by decide +kernel
theorem dX2_init_31 : decode cX2_init 31 = .ok (.aload_n 0, 1) := by decide +kernel
theorem dX2_init_32 : decode cX2_init 32 = .ok (.bipush 60, 2) := by decide +kernel
theorem dX2_init_34 : decode cX2_init 34 = .ok (.newarray .int, 2) := by decide +kernel
theorem dX2_init_36 : decode cX2_init 36 = .ok (.putfield 25, 3) := by decide +kernel
theorem dX2_init_39 : decode cX2_init 39 = .ok (.aload_n 0, 1) := by decide +kernel
theorem dX2_init_40 : decode cX2_init 40 = .ok (.bipush 12, 2) := by decide +kernel
theorem dX2_init_42 : decode cX2_init 42 = .ok (.newarray .int, 2) := by decide +kernel
theorem dX2_init_44 : decode cX2_init 44 = .ok (.putfield 28, 3) := by decide +kernel
theorem dX2_init_47 : decode cX2_init 47 = .ok (.aload_n 0, 1) := by decide +kernel
theorem dX2_init_48 : decode cX2_init 48 = .ok (.bipush 12, 2) := by decide +kernel
theorem dX2_init_50 : decode cX2_init 50 = .ok (.newarray .boolean, 2) := by decide +kernel
theorem dX2_init_52 : decode cX2_init 52 = .ok (.putfield 31, 3) := by decide +kernel
theorem dX2_init_55 : decode cX2_init 55 = .ok (.aload_n 0, 1) := by decide +kernel
theorem dX2_init_56 : decode cX2_init 56 = .ok (.bipush 12, 2) := by decide +kernel
theorem dX2_init_58 : decode cX2_init 58 = .ok (.bipush 10, 2) := by decide +kernel
theorem dX2_init_60 : decode cX2_init 60 = .ok (.multianewarray 35 2, 4) := by decide +kernel
theorem dX2_init_64 : decode cX2_init 64 = .ok (.putfield 37, 3) := by decide +kernel
theorem dX2_init_67 : decode cX2_init 67 = .ok (.aload_n 0, 1) := by decide +kernel
theorem dX2_init_68 : decode cX2_init 68 = .ok (.bipush 12, 2) := by decide +kernel
theorem dX2_init_70 : decode cX2_init 70 = .ok (.newarray .int, 2) := by decide +kernel
theorem dX2_init_72 : decode cX2_init 72 = .ok (.putfield 40, 3) := by decide +kernel
theorem dX2_init_75 : decode cX2_init 75 = .ok (.aload_n 0, 1) := by decide +kernel
theorem dX2_init_76 : decode cX2_init 76 = .ok (.bipush 24, 2) := by decide +kernel
theorem dX2_init_78 : decode cX2_init 78 = .ok (.newarray .int, 2) := by decide +kernel
theorem dX2_init_80 : decode cX2_init 80 = .ok (.putfield 43, 3) := by decide +kernel
theorem dX2_init_83 : decode cX2_init 83 = .ok (.aload_n 0, 1) := by decide +kernel
theorem dX2_init_84 : decode cX2_init 84 = .ok (.iconst 0, 1) := by decide +kernel
theorem dX2_init_85 : decode cX2_init 85 = .ok (.putfield 46, 3) := by decide +kernel
theorem dX2_init_88 : decode cX2_init 88 = .ok (.aload_n 0, 1) := by decide +kernel
theorem dX2_init_89 : decode cX2_init 89 = .ok (.iconst 0, 1) := by decide +kernel
theorem dX2_init_90 : decode cX2_init 90 = .ok (.putfield 50, 3) := by decide +kernel
theorem dX2_init_93 : decode cX2_init 93 = .ok (.return_, 1) := by decide +kernel
theorem dX2_forget_0 : decode cX2_forget 0 = .ok (.aload_n 0, 1) := by decide +kernel
theorem dX2_forget_1 : decode cX2_forget 1 = .ok (.getfield 12, 3) := by decide +kernel
theorem dX2_forget_4 : decode cX2_forget 4 = .ok (.iconst 0, 1) := by decide +kernel
theorem dX2_forget_5 : decode cX2_forget 5 = .ok (.putfield 53, 3) := by decide +kernel
theorem dX2_forget_8 : decode cX2_forget 8 = .ok (.aload_n 0, 1) := by decide +kernel
theorem dX2_forget_9 : decode cX2_forget 9 = .ok (.iconst 0, 1) := by decide +kernel
theorem dX2_forget_10 : decode cX2_forget 10 = .ok (.putfield 50, 3) := by decide +kernel
theorem dX2_forget_13 : decode cX2_forget 13 = .ok (.iconst 0, 1) := by decide +kernel
theorem dX2_forget_14 : decode cX2_forget 14 = .ok (.istore_n 1, 1) := by decide +kernel
theorem dX2_forget_15 : decode cX2_forget 15 = .ok (.iload_n 1, 1) := by decide +kernel
theorem dX2_forget_16 : decode cX2_forget 16 = .ok (.bipush 12, 2) := by decide +kernel
theorem dX2_forget_18 : decode cX2_forget 18 = .ok (.if_icmp .ge 16, 3) := by decide +kernel
theorem dX2_forget_21 : decode cX2_forget 21 = .ok (.aload_n 0, 1) := by decide +kernel
theorem dX2_forget_22 : decode cX2_forget 22 = .ok (.getfield 28, 3) := by decide +kernel
theorem dX2_forget_25 : decode cX2_forget 25 = .ok (.iload_n 1, 1) := by decide +kernel
theorem dX2_forget_26 : decode cX2_forget 26 = .ok (.iconst 0, 1) := by decide +kernel
theorem dX2_forget_27 : decode cX2_forget 27 = .ok (.iastore, 1) := by decide +kernel
theorem dX2_forget_28 : decode cX2_forget 28 = .ok (.iinc 1 1, 3) := by decide +kernel
theorem dX2_forget_31 : decode cX2_forget 31 = .ok (.goto (-16), 3) := by decide +kernel
theorem dX2_forget_34 : decode cX2_forget 34 = .ok (.return_, 1) := by decide +kernel
set_option maxRecDepth 20000 in
theorem ggX2_begin_X2_post : GoodIn wsX2_begin wsX2_post := goodIn_r _ [12, 13, 14, 15, 16, 17, 18, 19, 20, 21, 22, 23, 24, 25, 26, 27, 28, 31, 32, 33, 34, 35, 36, 37, 38, 39, 40, 41, 42, 43, 44, 45, 46, 47, 48, 49] (by decide +kernel) (by decide +kernel)
set_option maxRecDepth 20000 in
theorem gX2_begin_X2_post : GoodIn wsX2_begin (wsV RX2 62 RX2 yX2_post wsX2_post) := goodIn_app (goodIn_of _ (by decide +kernel)) ggX2_begin_X2_post
theorem dX2_begin_0 : decode cX2_begin 0 = .ok (.aload_n 0, 1) := by decide +kernel
theorem dX2_begin_1 : decode cX2_begin 1 = .ok (.aload_n 2, 1) := by decide +kernel
theorem dX2_begin_2 : decode cX2_begin 2 = .ok (.getfield 56, 3) := by decide +kernel
theorem dX2_begin_5 : decode cX2_begin 5 = .ok (.putfield 46, 3) := by decide +kernel
theorem dX2_begin_8 : decode cX2_begin 8 = .ok (.aload_n 0, 1) := by decide +kernel
theorem dX2_begin_9 : decode cX2_begin 9 = .ok (.iconst 0, 1) := by decide +kernel
theorem dX2_begin_10 : decode cX2_begin 10 = .ok (.putfield 50, 3) := by decide +kernel
theorem dX2_begin_13 : decode cX2_begin 13 = .ok (.iconst 0, 1) := by decide +kernel
theorem dX2_begin_14 : decode cX2_begin 14 = .ok (.istore 5, 2) := by decide +kernel
theorem dX2_begin_16 : decode cX2_begin 16 = .ok (.iload 5, 2) := by decide +kernel
theorem dX2_begin_18 : decode cX2_begin 18 = .ok (.bipush 12, 2) := by decide +kernel
theorem dX2_begin_20 : decode cX2_begin 20 = .ok (.if_icmp .ge 25, 3) := by decide +kernel
theorem dX2_begin_23 : decode cX2_begin 23 = .ok (.aload_n 0, 1) := by decide +kernel
theorem dX2_begin_24 : decode cX2_begin 24 = .ok (.getfield 40, 3) := by decide +kernel
theorem dX2_begin_27 : decode cX2_begin 27 = .ok (.iload 5, 2) := by decide +kernel
theorem dX2_begin_29 : decode cX2_begin 29 = .ok (.iconst 0, 1) := by decide +kernel
theorem dX2_begin_30 : decode cX2_begin 30 = .ok (.iastore, 1) := by decide +kernel
theorem dX2_begin_31 : decode cX2_begin 31 = .ok (.aload_n 0, 1) := by decide +kernel
theorem dX2_begin_32 : decode cX2_begin 32 = .ok (.getfield 28, 3) := by decide +kernel
theorem dX2_begin_35 : decode cX2_begin 35 = .ok (.iload 5, 2) := by decide +kernel
theorem dX2_begin_37 : decode cX2_begin 37 = .ok (.iconst 0, 1) := by decide +kernel
theorem dX2_begin_38 : decode cX2_begin 38 = .ok (.iastore, 1) := by decide +kernel
theorem dX2_begin_39 : decode cX2_begin 39 = .ok (.iinc 5 1, 3) := by decide +kernel
theorem dX2_begin_42 : decode cX2_begin 42 = .ok (.goto (-26), 3) := by decide +kernel
theorem dX2_begin_45 : decode cX2_begin 45 = .ok (.iconst 0, 1) := by decide +kernel
theorem dX2_begin_46 : decode cX2_begin 46 = .ok (.istore 5, 2) := by decide +kernel
theorem dX2_begin_48 : decode cX2_begin 48 = .ok (.iload 5, 2) := by decide +kernel
theorem dX2_begin_50 : decode cX2_begin 50 = .ok (.aload_n 0, 1) := by decide +kernel
theorem dX2_begin_51 : decode cX2_begin 51 = .ok (.getfield 46, 3) := by decide +kernel
theorem dX2_begin_54 : decode cX2_begin 54 = .ok (.if_icmp .ge 27, 3) := by decide +kernel
theorem dX2_begin_57 : decode cX2_begin 57 = .ok (.aload_n 0, 1) := by decide +kernel
theorem dX2_begin_58 : decode cX2_begin 58 = .ok (.aload_n 1, 1) := by decide +kernel
theorem dX2_begin_59 : decode cX2_begin 59 = .ok (.iload 5, 2) := by decide +kernel
theorem dX2_begin_61 : decode cX2_begin 61 = .ok (.aload_n 2, 1) := by decide +kernel
theorem dX2_begin_62 : decode cX2_begin 62 = .ok (.getfield 59, 3) := by decide +kernel
theorem dX2_begin_65 : decode cX2_begin 65 = .ok (.iload_n 3, 1) := by decide +kernel
theorem dX2_begin_66 : decode cX2_begin 66 = .ok (.aaload, 1) := by decide +kernel
theorem dX2_begin_67 : decode cX2_begin 67 = .ok (.iload 5, 2) := by decide +kernel
theorem dX2_begin_69 : decode cX2_begin 69 = .ok (.iaload, 1) := by decide +kernel
theorem dX2_begin_70 : decode cX2_begin 70 = .ok (.iload 4, 2) := by decide +kernel
theorem dX2_begin_72 : decode cX2_begin 72 = .ok (.invokevirtual 62, 3) := by decide +kernel
theorem dX2_begin_75 : decode cX2_begin 75 = .ok (.iinc 5 1, 3) := by decide +kernel
theorem dX2_begin_78 : decode cX2_begin 78 = .ok (.goto (-30), 3) := by decide +kernel
theorem dX2_begin_81 : decode cX2_begin 81 = .ok (.iconst 0, 1) := by decide +kernel
theorem dX2_begin_82 : decode cX2_begin 82 = .ok (.istore 5, 2) := by decide +kernel
theorem dX2_begin_84 : decode cX2_begin 84 = .ok (.iload 5, 2) := by decide +kernel
theorem dX2_begin_86 : decode cX2_begin 86 = .ok (.bipush 60, 2) := by decide +kernel
theorem dX2_begin_88 : decode cX2_begin 88 = .ok (.if_icmp .ge 17, 3) := by decide +kernel
theorem dX2_begin_91 : decode cX2_begin 91 = .ok (.aload_n 0, 1) := by decide +kernel
theorem dX2_begin_92 : decode cX2_begin 92 = .ok (.getfield 18, 3) := by decide +kernel
theorem dX2_begin_95 : decode cX2_begin 95 = .ok (.iload 5, 2) := by decide +kernel
theorem dX2_begin_97 : decode cX2_begin 97 = .ok (.iconst (-1), 1) := by decide +kernel
theorem dX2_begin_98 : decode cX2_begin 98 = .ok (.iastore, 1) := by decide +kernel
theorem dX2_begin_99 : decode cX2_begin 99 = .ok (.iinc 5 1, 3) := by decide +kernel
theorem dX2_begin_102 : decode cX2_begin 102 = .ok (.goto (-18), 3) := by decide +kernel
theorem dX2_begin_105 : decode cX2_begin 105 = .ok (.return_, 1) := by decide +kernel
set_option maxRecDepth 20000 in
theorem ggX2_post_X3_wayMinutes : GoodIn wsX2_post wsX3_wayMinutes := goodIn_r _ [8, 9, 10, 11, 12, 13, 14, 15, 16, 28, 29, 30, 31, 32, 33, 34, 35] (by decide +kernel) (by decide +kernel)
set_option maxRecDepth 20000 in
theorem gX2_post_X3_wayMinutes : GoodIn wsX2_post (wsV RX2 71 RX3 yX3_wayMinutes wsX3_wayMinutes) := goodIn_app (goodIn_of _ (by decide +kernel)) ggX2_post_X3_wayMinutes
theorem dX2_post_0 : decode cX2_post 0 = .ok (.aload_n 0, 1) := by decide +kernel
theorem dX2_post_1 : decode cX2_post 1 = .ok (.getfield 31, 3) := by decide +kernel
theorem dX2_post_4 : decode cX2_post 4 = .ok (.iload_n 2, 1) := by decide +kernel
theorem dX2_post_5 : decode cX2_post 5 = .ok (.iload_n 3, 1) := by decide +kernel
theorem dX2_post_6 : decode cX2_post 6 = .ok (.iconst (-1), 1) := by decide +kernel
theorem dX2_post_7 : decode cX2_post 7 = .ok (.if_icmp .ne 7, 3) := by decide +kernel
theorem dX2_post_10 : decode cX2_post 10 = .ok (.iconst 1, 1) := by decide +kernel
theorem dX2_post_11 : decode cX2_post 11 = .ok (.goto 4, 3) := by decide +kernel
theorem dX2_post_14 : decode cX2_post 14 = .ok (.iconst 0, 1) := by decide +kernel
theorem dX2_post_15 : decode cX2_post 15 = .ok (.bastore, 1) := by decide +kernel
theorem dX2_post_16 : decode cX2_post 16 = .ok (.iconst 0, 1) := by decide +kernel
theorem dX2_post_17 : decode cX2_post 17 = .ok (.istore 5, 2) := by decide +kernel
theorem dX2_post_19 : decode cX2_post 19 = .ok (.iload 5, 2) := by decide +kernel
theorem dX2_post_21 : decode cX2_post 21 = .ok (.aload_n 1, 1) := by decide +kernel
theorem dX2_post_22 : decode cX2_post 22 = .ok (.getfield 66, 3) := by decide +kernel
theorem dX2_post_25 : decode cX2_post 25 = .ok (.if_icmp .ge 32, 3) := by decide +kernel
theorem dX2_post_28 : decode cX2_post 28 = .ok (.iload_n 3, 1) := by decide +kernel
theorem dX2_post_29 : decode cX2_post 29 = .ok (.iconst (-1), 1) := by decide +kernel
theorem dX2_post_30 : decode cX2_post 30 = .ok (.if_icmp .eq 27, 3) := by decide +kernel
theorem dX2_post_33 : decode cX2_post 33 = .ok (.aload_n 0, 1) := by decide +kernel
theorem dX2_post_34 : decode cX2_post 34 = .ok (.getfield 37, 3) := by decide +kernel
theorem dX2_post_37 : decode cX2_post 37 = .ok (.iload_n 2, 1) := by decide +kernel
theorem dX2_post_38 : decode cX2_post 38 = .ok (.aaload, 1) := by decide +kernel
theorem dX2_post_39 : decode cX2_post 39 = .ok (.iload 5, 2) := by decide +kernel
theorem dX2_post_41 : decode cX2_post 41 = .ok (.aload_n 1, 1) := by decide +kernel
theorem dX2_post_42 : decode cX2_post 42 = .ok (.iload_n 3, 1) := by decide +kernel
theorem dX2_post_43 : decode cX2_post 43 = .ok (.iload 5, 2) := by decide +kernel
theorem dX2_post_45 : decode cX2_post 45 = .ok (.iload 4, 2) := by decide +kernel
theorem dX2_post_47 : decode cX2_post 47 = .ok (.invokevirtual 71, 3) := by decide +kernel
theorem dX2_post_50 : decode cX2_post 50 = .ok (.iastore, 1) := by decide +kernel
theorem dX2_post_51 : decode cX2_post 51 = .ok (.iinc 5 1, 3) := by decide +kernel
theorem dX2_post_54 : decode cX2_post 54 = .ok (.goto (-35), 3) := by decide +kernel
theorem dX2_post_57 : decode cX2_post 57 = .ok (.return_, 1) := by decide +kernel
set_option maxRecDepth 20000 in
theorem ggX2_playOut_X2_sendUnits : GoodIn wsX2_playOut wsX2_sendUnits := goodIn_r _ [14, 15, 16, 17, 18, 19, 13, 20, 21, 22, 23, 24, 25, 26, 27, 28, 29, 30, 31, 32, 1, 33, 34, 35, 36, 37, 38, 39, 40, 41, 42, 43, 44, 45, 46, 47, 48, 57, 58, 59, 60, 61, 62, 63, 64, 65, 66, 67, 68, 69, 70, 71, 72] (by decide +kernel) (by decide +kernel)
set_option maxRecDepth 20000 in
theorem gX2_playOut_X2_sendUnits : GoodIn wsX2_playOut (wsV RX2 76 RX2 yX2_sendUnits wsX2_sendUnits) := goodIn_app (goodIn_of _ (by decide +kernel)) ggX2_playOut_X2_sendUnits
set_option maxRecDepth 20000 in
theorem ggX2_playOut_X2_nextEvent : GoodIn wsX2_playOut wsX2_nextEvent := goodIn_r _ [52, 1, 15, 21, 23, 3, 4, 5, 6, 33, 40, 57, 58, 59, 60, 61, 62, 63, 64, 65, 66, 67, 68, 69, 70, 71, 72] (by decide +kernel) (by decide +kernel)
set_option maxRecDepth 20000 in
theorem gX2_playOut_X2_nextEvent : GoodIn wsX2_playOut (wsV RX2 80 RX2 yX2_nextEvent wsX2_nextEvent) := goodIn_app (goodIn_of _ (by decide +kernel)) ggX2_playOut_X2_nextEvent
set_option maxRecDepth 20000 in
theorem ggX2_playOut_X2_isAnyFree : GoodIn wsX2_playOut wsX2_isAnyFree := goodIn_r _ [56, 33, 35, 36, 37, 13, 38, 39, 40, 57, 58, 59, 60, 61, 62, 63, 64, 65, 66, 67] (by decide +kernel) (by decide +kernel)
set_option maxRecDepth 20000 in
theorem gX2_playOut_X2_isAnyFree : GoodIn wsX2_playOut (wsV RX2 84 RX2 yX2_isAnyFree wsX2_isAnyFree) := goodIn_app (goodIn_of _ (by decide +kernel)) ggX2_playOut_X2_isAnyFree
theorem dX2_playOut_0 : decode cX2_playOut 0 = .ok (.iconst 0, 1) := by decide +kernel
theorem dX2_playOut_1 : decode cX2_playOut 1 = .ok (.istore_n 1, 1) := by decide +kernel
theorem dX2_playOut_2 : decode cX2_playOut 2 = .ok (.iconst 0, 1) := by decide +kernel
theorem dX2_playOut_3 : decode cX2_playOut 3 = .ok (.istore_n 2, 1) := by decide +kernel
theorem dX2_playOut_4 : decode cX2_playOut 4 = .ok (.iload_n 2, 1) := by decide +kernel
theorem dX2_playOut_5 : decode cX2_playOut 5 = .ok (.bipush 121, 2) := by decide +kernel
theorem dX2_playOut_7 : decode cX2_playOut 7 = .ok (.if_icmp .ge 58, 3) := by decide +kernel
theorem dX2_playOut_10 : decode cX2_playOut 10 = .ok (.iload_n 1, 1) := by decide +kernel
theorem dX2_playOut_11 : decode cX2_playOut 11 = .ok (.ldc 75, 2) := by decide +kernel
theorem dX2_playOut_13 : decode cX2_playOut 13 = .ok (.if_icmp .ge 52, 3) := by decide +kernel
theorem dX2_playOut_16 : decode cX2_playOut 16 = .ok (.aload_n 0, 1) := by decide +kernel
theorem dX2_playOut_17 : decode cX2_playOut 17 = .ok (.iload_n 1, 1) := by decide +kernel
theorem dX2_playOut_18 : decode cX2_playOut 18 = .ok (.invokevirtual 76, 3) := by decide +kernel
theorem dX2_playOut_21 : decode cX2_playOut 21 = .ok (.aload_n 0, 1) := by decide +kernel
theorem dX2_playOut_22 : decode cX2_playOut 22 = .ok (.iload_n 1, 1) := by decide +kernel
theorem dX2_playOut_23 : decode cX2_playOut 23 = .ok (.invokevirtual 80, 3) := by decide +kernel
theorem dX2_playOut_26 : decode cX2_playOut 26 = .ok (.istore_n 3, 1) := by decide +kernel
theorem dX2_playOut_27 : decode cX2_playOut 27 = .ok (.aload_n 0, 1) := by decide +kernel
theorem dX2_playOut_28 : decode cX2_playOut 28 = .ok (.iload_n 1, 1) := by decide +kernel
theorem dX2_playOut_29 : decode cX2_playOut 29 = .ok (.invokevirtual 84, 3) := by decide +kernel
theorem dX2_playOut_32 : decode cX2_playOut 32 = .ok (.ifCond .ne 25, 3) := by decide +kernel
theorem dX2_playOut_35 : decode cX2_playOut 35 = .ok (.aload_n 0, 1) := by decide +kernel
theorem dX2_playOut_36 : decode cX2_playOut 36 = .ok (.dup, 1) := by decide +kernel
theorem dX2_playOut_37 : decode cX2_playOut 37 = .ok (.getfield 50, 3) := by decide +kernel
theorem dX2_playOut_40 : decode cX2_playOut 40 = .ok (.iconst 0, 1) := by decide +kernel
theorem dX2_playOut_41 : decode cX2_playOut 41 = .ok (.iload_n 3, 1) := by decide +kernel
theorem dX2_playOut_42 : decode cX2_playOut 42 = .ok (.sipush 1440, 3) := by decide +kernel
theorem dX2_playOut_45 : decode cX2_playOut 45 = .ok (.invokestatic 88, 3) := by decide +kernel
theorem dX2_playOut_48 : decode cX2_playOut 48 = .ok (.iload_n 1, 1) := by decide +kernel
theorem dX2_playOut_49 : decode cX2_playOut 49 = .ok (.isub, 1) := by decide +kernel
theorem dX2_playOut_50 : decode cX2_playOut 50 = .ok (.invokestatic 94, 3) := by decide +kernel
theorem dX2_playOut_53 : decode cX2_playOut 53 = .ok (.iadd, 1) := by decide +kernel
theorem dX2_playOut_54 : decode cX2_playOut 54 = .ok (.putfield 50, 3) := by decide +kernel
theorem dX2_playOut_57 : decode cX2_playOut 57 = .ok (.iload_n 3, 1) := by decide +kernel
theorem dX2_playOut_58 : decode cX2_playOut 58 = .ok (.istore_n 1, 1) := by decide +kernel
theorem dX2_playOut_59 : decode cX2_playOut 59 = .ok (.iinc 2 1, 3) := by decide +kernel
theorem dX2_playOut_62 : decode cX2_playOut 62 = .ok (.goto (-58), 3) := by decide +kernel
theorem dX2_playOut_65 : decode cX2_playOut 65 = .ok (.return_, 1) := by decide +kernel
set_option maxRecDepth 20000 in
theorem ggX2_sendUnits_X2_firstWaiting : GoodIn wsX2_sendUnits wsX2_firstWaiting := goodIn_r _ [7, 1, 8, 9, 10, 11, 12, 13, 6, 14, 15, 37, 38, 39, 40, 41, 42, 43, 44, 45, 46, 47, 48, 49, 50, 51, 52] (by decide +kernel) (by decide +kernel)
set_option maxRecDepth 20000 in
theorem gX2_sendUnits_X2_firstWaiting : GoodIn wsX2_sendUnits (wsV RX2 97 RX2 yX2_firstWaiting wsX2_firstWaiting) := goodIn_app (goodIn_of _ (by decide +kernel)) ggX2_sendUnits_X2_firstWaiting
set_option maxRecDepth 20000 in
theorem ggX2_sendUnits_X2_nearestFree : GoodIn wsX2_sendUnits wsX2_nearestFree := goodIn_r _ [19, 20, 21, 22, 23, 24, 25, 6, 26, 27, 28, 37, 38, 39, 40, 41, 42, 43, 44, 45, 46, 47] (by decide +kernel) (by decide +kernel)
set_option maxRecDepth 20000 in
theorem gX2_sendUnits_X2_nearestFree : GoodIn wsX2_sendUnits (wsV RX2 103 RX2 yX2_nearestFree wsX2_nearestFree) := goodIn_app (goodIn_of _ (by decide +kernel)) ggX2_sendUnits_X2_nearestFree
set_option maxRecDepth 20000 in
theorem ggX2_sendUnits_X2_send : GoodIn wsX2_sendUnits wsX2_send := goodIn_r _ [32, 22, 1, 2, 9, 33, 34, 28, 35, 36, 37, 38, 39, 40, 41, 42, 43, 44, 45, 46, 47, 48, 49, 50, 51, 52] (by decide +kernel) (by decide +kernel)
set_option maxRecDepth 20000 in
theorem gX2_sendUnits_X2_send : GoodIn wsX2_sendUnits (wsV RX2 106 RX2 yX2_send wsX2_send) := goodIn_app (goodIn_of _ (by decide +kernel)) ggX2_sendUnits_X2_send
theorem dX2_sendUnits_0 : decode cX2_sendUnits 0 = .ok (.iconst 0, 1) := by decide +kernel
theorem dX2_sendUnits_1 : decode cX2_sendUnits 1 = .ok (.istore_n 2, 1) := by decide +kernel
theorem dX2_sendUnits_2 : decode cX2_sendUnits 2 = .ok (.iload_n 2, 1) := by decide +kernel
theorem dX2_sendUnits_3 : decode cX2_sendUnits 3 = .ok (.bipush 60, 2) := by decide +kernel
theorem dX2_sendUnits_5 : decode cX2_sendUnits 5 = .ok (.if_icmp .ge 52, 3) := by decide +kernel
theorem dX2_sendUnits_8 : decode cX2_sendUnits 8 = .ok (.aload_n 0, 1) := by decide +kernel
theorem dX2_sendUnits_9 : decode cX2_sendUnits 9 = .ok (.iload_n 1, 1) := by decide +kernel
theorem dX2_sendUnits_10 : decode cX2_sendUnits 10 = .ok (.invokevirtual 97, 3) := by decide +kernel
theorem dX2_sendUnits_13 : decode cX2_sendUnits 13 = .ok (.istore_n 3, 1) := by decide +kernel
theorem dX2_sendUnits_14 : decode cX2_sendUnits 14 = .ok (.iload_n 3, 1) := by decide +kernel
theorem dX2_sendUnits_15 : decode cX2_sendUnits 15 = .ok (.iconst (-1), 1) := by decide +kernel
theorem dX2_sendUnits_16 : decode cX2_sendUnits 16 = .ok (.if_icmp .ne 4, 3) := by decide +kernel
theorem dX2_sendUnits_19 : decode cX2_sendUnits 19 = .ok (.return_, 1) := by decide +kernel
theorem dX2_sendUnits_20 : decode cX2_sendUnits 20 = .ok (.aload_n 0, 1) := by decide +kernel
theorem dX2_sendUnits_21 : decode cX2_sendUnits 21 = .ok (.iload_n 1, 1) := by decide +kernel
theorem dX2_sendUnits_22 : decode cX2_sendUnits 22 = .ok (.aload_n 0, 1) := by decide +kernel
theorem dX2_sendUnits_23 : decode cX2_sendUnits 23 = .ok (.getfield 12, 3) := by decide +kernel
theorem dX2_sendUnits_26 : decode cX2_sendUnits 26 = .ok (.getfield 100, 3) := by decide +kernel
theorem dX2_sendUnits_29 : decode cX2_sendUnits 29 = .ok (.iload_n 3, 1) := by decide +kernel
theorem dX2_sendUnits_30 : decode cX2_sendUnits 30 = .ok (.iaload, 1) := by decide +kernel
theorem dX2_sendUnits_31 : decode cX2_sendUnits 31 = .ok (.invokevirtual 103, 3) := by decide +kernel
theorem dX2_sendUnits_34 : decode cX2_sendUnits 34 = .ok (.istore 4, 2) := by decide +kernel
theorem dX2_sendUnits_36 : decode cX2_sendUnits 36 = .ok (.iload 4, 2) := by decide +kernel
theorem dX2_sendUnits_38 : decode cX2_sendUnits 38 = .ok (.iconst (-1), 1) := by decide +kernel
theorem dX2_sendUnits_39 : decode cX2_sendUnits 39 = .ok (.if_icmp .ne 4, 3) := by decide +kernel
theorem dX2_sendUnits_42 : decode cX2_sendUnits 42 = .ok (.return_, 1) := by decide +kernel
theorem dX2_sendUnits_43 : decode cX2_sendUnits 43 = .ok (.aload_n 0, 1) := by decide +kernel
theorem dX2_sendUnits_44 : decode cX2_sendUnits 44 = .ok (.iload_n 3, 1) := by decide +kernel
theorem dX2_sendUnits_45 : decode cX2_sendUnits 45 = .ok (.iload 4, 2) := by decide +kernel
theorem dX2_sendUnits_47 : decode cX2_sendUnits 47 = .ok (.iload_n 1, 1) := by decide +kernel
theorem dX2_sendUnits_48 : decode cX2_sendUnits 48 = .ok (.invokevirtual 106, 3) := by decide +kernel
theorem dX2_sendUnits_51 : decode cX2_sendUnits 51 = .ok (.iinc 2 1, 3) := by decide +kernel
theorem dX2_sendUnits_54 : decode cX2_sendUnits 54 = .ok (.goto (-52), 3) := by decide +kernel
theorem dX2_sendUnits_57 : decode cX2_sendUnits 57 = .ok (.return_, 1) := by decide +kernel
theorem dX2_send_0 : decode cX2_send 0 = .ok (.aload_n 0, 1) := by decide +kernel
theorem dX2_send_1 : decode cX2_send 1 = .ok (.getfield 37, 3) := by decide +kernel
theorem dX2_send_4 : decode cX2_send 4 = .ok (.iload_n 2, 1) := by decide +kernel
theorem dX2_send_5 : decode cX2_send 5 = .ok (.aaload, 1) := by decide +kernel
theorem dX2_send_6 : decode cX2_send 6 = .ok (.aload_n 0, 1) := by decide +kernel
theorem dX2_send_7 : decode cX2_send 7 = .ok (.getfield 12, 3) := by decide +kernel
theorem dX2_send_10 : decode cX2_send 10 = .ok (.getfield 100, 3) := by decide +kernel
theorem dX2_send_13 : decode cX2_send 13 = .ok (.iload_n 1, 1) := by decide +kernel
theorem dX2_send_14 : decode cX2_send 14 = .ok (.iaload, 1) := by decide +kernel
theorem dX2_send_15 : decode cX2_send 15 = .ok (.iaload, 1) := by decide +kernel
theorem dX2_send_16 : decode cX2_send 16 = .ok (.istore 4, 2) := by decide +kernel
theorem dX2_send_18 : decode cX2_send 18 = .ok (.aload_n 0, 1) := by decide +kernel
theorem dX2_send_19 : decode cX2_send 19 = .ok (.getfield 18, 3) := by decide +kernel
theorem dX2_send_22 : decode cX2_send 22 = .ok (.iload_n 1, 1) := by decide +kernel
theorem dX2_send_23 : decode cX2_send 23 = .ok (.iload_n 2, 1) := by decide +kernel
theorem dX2_send_24 : decode cX2_send 24 = .ok (.iastore, 1) := by decide +kernel
theorem dX2_send_25 : decode cX2_send 25 = .ok (.aload_n 0, 1) := by decide +kernel
theorem dX2_send_26 : decode cX2_send 26 = .ok (.getfield 22, 3) := by decide +kernel
theorem dX2_send_29 : decode cX2_send 29 = .ok (.iload_n 1, 1) := by decide +kernel
theorem dX2_send_30 : decode cX2_send 30 = .ok (.iload 4, 2) := by decide +kernel
theorem dX2_send_32 : decode cX2_send 32 = .ok (.iastore, 1) := by decide +kernel
theorem dX2_send_33 : decode cX2_send 33 = .ok (.aload_n 0, 1) := by decide +kernel
theorem dX2_send_34 : decode cX2_send 34 = .ok (.getfield 25, 3) := by decide +kernel
theorem dX2_send_37 : decode cX2_send 37 = .ok (.iload_n 1, 1) := by decide +kernel
theorem dX2_send_38 : decode cX2_send 38 = .ok (.iload_n 3, 1) := by decide +kernel
theorem dX2_send_39 : decode cX2_send 39 = .ok (.iload 4, 2) := by decide +kernel
theorem dX2_send_41 : decode cX2_send 41 = .ok (.iadd, 1) := by decide +kernel
theorem dX2_send_42 : decode cX2_send 42 = .ok (.iastore, 1) := by decide +kernel
theorem dX2_send_43 : decode cX2_send 43 = .ok (.aload_n 0, 1) := by decide +kernel
theorem dX2_send_44 : decode cX2_send 44 = .ok (.getfield 40, 3) := by decide +kernel
theorem dX2_send_47 : decode cX2_send 47 = .ok (.iload_n 2, 1) := by decide +kernel
theorem dX2_send_48 : decode cX2_send 48 = .ok (.aload_n 0, 1) := by decide +kernel
theorem dX2_send_49 : decode cX2_send 49 = .ok (.getfield 25, 3) := by decide +kernel
theorem dX2_send_52 : decode cX2_send 52 = .ok (.iload_n 1, 1) := by decide +kernel
theorem dX2_send_53 : decode cX2_send 53 = .ok (.iaload, 1) := by decide +kernel
theorem dX2_send_54 : decode cX2_send 54 = .ok (.aload_n 0, 1) := by decide +kernel
theorem dX2_send_55 : decode cX2_send 55 = .ok (.getfield 12, 3) := by decide +kernel
theorem dX2_send_58 : decode cX2_send 58 = .ok (.getfield 110, 3) := by decide +kernel
theorem dX2_send_61 : decode cX2_send 61 = .ok (.iload_n 1, 1) := by decide +kernel
theorem dX2_send_62 : decode cX2_send 62 = .ok (.iaload, 1) := by decide +kernel
theorem dX2_send_63 : decode cX2_send 63 = .ok (.iadd, 1) := by decide +kernel
theorem dX2_send_64 : decode cX2_send 64 = .ok (.iload 4, 2) := by decide +kernel
theorem dX2_send_66 : decode cX2_send 66 = .ok (.iadd, 1) := by decide +kernel
theorem dX2_send_67 : decode cX2_send 67 = .ok (.iastore, 1) := by decide +kernel
theorem dX2_send_68 : decode cX2_send 68 = .ok (.aload_n 0, 1) := by decide +kernel
theorem dX2_send_69 : decode cX2_send 69 = .ok (.getfield 28, 3) := by decide +kernel
theorem dX2_send_72 : decode cX2_send 72 = .ok (.iload_n 2, 1) := by decide +kernel
theorem dX2_send_73 : decode cX2_send 73 = .ok (.dup2, 1) := by decide +kernel
theorem dX2_send_74 : decode cX2_send 74 = .ok (.iaload, 1) := by decide +kernel
theorem dX2_send_75 : decode cX2_send 75 = .ok (.aload_n 0, 1) := by decide +kernel
theorem dX2_send_76 : decode cX2_send 76 = .ok (.getfield 40, 3) := by decide +kernel
theorem dX2_send_79 : decode cX2_send 79 = .ok (.iload_n 2, 1) := by decide +kernel
theorem dX2_send_80 : decode cX2_send 80 = .ok (.iaload, 1) := by decide +kernel
theorem dX2_send_81 : decode cX2_send 81 = .ok (.iload_n 3, 1) := by decide +kernel
theorem dX2_send_82 : decode cX2_send 82 = .ok (.isub, 1) := by decide +kernel
theorem dX2_send_83 : decode cX2_send 83 = .ok (.iadd, 1) := by decide +kernel
theorem dX2_send_84 : decode cX2_send 84 = .ok (.iastore, 1) := by decide +kernel
theorem dX2_send_85 : decode cX2_send 85 = .ok (.return_, 1) := by decide +kernel
set_option maxRecDepth 20000 in
theorem ggX2_firstWaiting_X2_goesAhead : GoodIn wsX2_firstWaiting wsX2_goesAhead := goodIn_r _ [9, 1, 10, 4, 11, 12, 13, 14, 15, 16, 17, 18, 19, 20, 21, 22, 23, 24, 25, 26] (by decide +kernel) (by decide +kernel)
set_option maxRecDepth 20000 in
theorem gX2_firstWaiting_X2_goesAhead : GoodIn wsX2_firstWaiting (wsV RX2 116 RX2 yX2_goesAhead wsX2_goesAhead) := goodIn_app (goodIn_of _ (by decide +kernel)) ggX2_firstWaiting_X2_goesAhead
theorem dX2_firstWaiting_0 : decode cX2_firstWaiting 0 = .ok (.iconst (-1), 1) := by decide +kernel
theorem dX2_firstWaiting_1 : decode cX2_firstWaiting 1 = .ok (.istore_n 2, 1) := by decide +kernel
theorem dX2_firstWaiting_2 : decode cX2_firstWaiting 2 = .ok (.iconst 0, 1) := by decide +kernel
theorem dX2_firstWaiting_3 : decode cX2_firstWaiting 3 = .ok (.istore_n 3, 1) := by decide +kernel
theorem dX2_firstWaiting_4 : decode cX2_firstWaiting 4 = .ok (.iload_n 3, 1) := by decide +kernel
theorem dX2_firstWaiting_5 : decode cX2_firstWaiting 5 = .ok (.aload_n 0, 1) := by decide +kernel
theorem dX2_firstWaiting_6 : decode cX2_firstWaiting 6 = .ok (.getfield 12, 3) := by decide +kernel
theorem dX2_firstWaiting_9 : decode cX2_firstWaiting 9 = .ok (.getfield 53, 3) := by decide +kernel
theorem dX2_firstWaiting_12 : decode cX2_firstWaiting 12 = .ok (.if_icmp .ge 60, 3) := by decide +kernel
theorem dX2_firstWaiting_15 : decode cX2_firstWaiting 15 = .ok (.aload_n 0, 1) := by decide +kernel
theorem dX2_firstWaiting_16 : decode cX2_firstWaiting 16 = .ok (.getfield 18, 3) := by decide +kernel
theorem dX2_firstWaiting_19 : decode cX2_firstWaiting 19 = .ok (.iload_n 3, 1) := by decide +kernel
theorem dX2_firstWaiting_20 : decode cX2_firstWaiting 20 = .ok (.iaload, 1) := by decide +kernel
theorem dX2_firstWaiting_21 : decode cX2_firstWaiting 21 = .ok (.iconst (-1), 1) := by decide +kernel
theorem dX2_firstWaiting_22 : decode cX2_firstWaiting 22 = .ok (.if_icmp .ne 20, 3) := by decide +kernel
theorem dX2_firstWaiting_25 : decode cX2_firstWaiting 25 = .ok (.aload_n 0, 1) := by decide +kernel
theorem dX2_firstWaiting_26 : decode cX2_firstWaiting 26 = .ok (.getfield 12, 3) := by decide +kernel
theorem dX2_firstWaiting_29 : decode cX2_firstWaiting 29 = .ok (.getfield 113, 3) := by decide +kernel
theorem dX2_firstWaiting_32 : decode cX2_firstWaiting 32 = .ok (.iload_n 3, 1) := by decide +kernel
theorem dX2_firstWaiting_33 : decode cX2_firstWaiting 33 = .ok (.iaload, 1) := by decide +kernel
theorem dX2_firstWaiting_34 : decode cX2_firstWaiting 34 = .ok (.iload_n 1, 1) := by decide +kernel
theorem dX2_firstWaiting_35 : decode cX2_firstWaiting 35 = .ok (.if_icmp .gt 7, 3) := by decide +kernel
theorem dX2_firstWaiting_38 : decode cX2_firstWaiting 38 = .ok (.iconst 1, 1) := by decide +kernel
theorem dX2_firstWaiting_39 : decode cX2_firstWaiting 39 = .ok (.goto 4, 3) := by decide +kernel
theorem dX2_firstWaiting_42 : decode cX2_firstWaiting 42 = .ok (.iconst 0, 1) := by decide +kernel
theorem dX2_firstWaiting_43 : decode cX2_firstWaiting 43 = .ok (.istore 4, 2) := by decide +kernel
theorem dX2_firstWaiting_45 : decode cX2_firstWaiting 45 = .ok (.iload 4, 2) := by decide +kernel
theorem dX2_firstWaiting_47 : decode cX2_firstWaiting 47 = .ok (.ifCond .eq 19, 3) := by decide +kernel
theorem dX2_firstWaiting_50 : decode cX2_firstWaiting 50 = .ok (.iload_n 2, 1) := by decide +kernel
theorem dX2_firstWaiting_51 : decode cX2_firstWaiting 51 = .ok (.iconst (-1), 1) := by decide +kernel
theorem dX2_firstWaiting_52 : decode cX2_firstWaiting 52 = .ok (.if_icmp .eq 12, 3) := by decide +kernel
theorem dX2_firstWaiting_55 : decode cX2_firstWaiting 55 = .ok (.aload_n 0, 1) := by decide +kernel
theorem dX2_firstWaiting_56 : decode cX2_firstWaiting 56 = .ok (.iload_n 3, 1) := by decide +kernel
theorem dX2_firstWaiting_57 : decode cX2_firstWaiting 57 = .ok (.iload_n 2, 1) := by decide +kernel
theorem dX2_firstWaiting_58 : decode cX2_firstWaiting 58 = .ok (.invokevirtual 116, 3) := by decide +kernel
theorem dX2_firstWaiting_61 : decode cX2_firstWaiting 61 = .ok (.ifCond .eq 5, 3) := by decide +kernel
theorem dX2_firstWaiting_64 : decode cX2_firstWaiting 64 = .ok (.iload_n 3, 1) := by decide +kernel
theorem dX2_firstWaiting_65 : decode cX2_firstWaiting 65 = .ok (.istore_n 2, 1) := by decide +kernel
theorem dX2_firstWaiting_66 : decode cX2_firstWaiting 66 = .ok (.iinc 3 1, 3) := by decide +kernel
theorem dX2_firstWaiting_69 : decode cX2_firstWaiting 69 = .ok (.goto (-65), 3) := by decide +kernel
theorem dX2_firstWaiting_72 : decode cX2_firstWaiting 72 = .ok (.iload_n 2, 1) := by decide +kernel
theorem dX2_firstWaiting_73 : decode cX2_firstWaiting 73 = .ok (.ireturn, 1) := by decide +kernel
theorem dX2_goesAhead_0 : decode cX2_goesAhead 0 = .ok (.aload_n 0, 1) := by decide +kernel
theorem dX2_goesAhead_1 : decode cX2_goesAhead 1 = .ok (.getfield 12, 3) := by decide +kernel
theorem dX2_goesAhead_4 : decode cX2_goesAhead 4 = .ok (.getfield 120, 3) := by decide +kernel
theorem dX2_goesAhead_7 : decode cX2_goesAhead 7 = .ok (.iload_n 1, 1) := by decide +kernel
theorem dX2_goesAhead_8 : decode cX2_goesAhead 8 = .ok (.iaload, 1) := by decide +kernel
theorem dX2_goesAhead_9 : decode cX2_goesAhead 9 = .ok (.aload_n 0, 1) := by decide +kernel
theorem dX2_goesAhead_10 : decode cX2_goesAhead 10 = .ok (.getfield 12, 3) := by decide +kernel
theorem dX2_goesAhead_13 : decode cX2_goesAhead 13 = .ok (.getfield 120, 3) := by decide +kernel
theorem dX2_goesAhead_16 : decode cX2_goesAhead 16 = .ok (.iload_n 2, 1) := by decide +kernel
theorem dX2_goesAhead_17 : decode cX2_goesAhead 17 = .ok (.iaload, 1) := by decide +kernel
theorem dX2_goesAhead_18 : decode cX2_goesAhead 18 = .ok (.if_icmp .eq 30, 3) := by decide +kernel
theorem dX2_goesAhead_21 : decode cX2_goesAhead 21 = .ok (.aload_n 0, 1) := by decide +kernel
theorem dX2_goesAhead_22 : decode cX2_goesAhead 22 = .ok (.getfield 12, 3) := by decide +kernel
theorem dX2_goesAhead_25 : decode cX2_goesAhead 25 = .ok (.getfield 120, 3) := by decide +kernel
theorem dX2_goesAhead_28 : decode cX2_goesAhead 28 = .ok (.iload_n 1, 1) := by decide +kernel
theorem dX2_goesAhead_29 : decode cX2_goesAhead 29 = .ok (.iaload, 1) := by decide +kernel
theorem dX2_goesAhead_30 : decode cX2_goesAhead 30 = .ok (.aload_n 0, 1) := by decide +kernel
theorem dX2_goesAhead_31 : decode cX2_goesAhead 31 = .ok (.getfield 12, 3) := by decide +kernel
theorem dX2_goesAhead_34 : decode cX2_goesAhead 34 = .ok (.getfield 120, 3) := by decide +kernel
theorem dX2_goesAhead_37 : decode cX2_goesAhead 37 = .ok (.iload_n 2, 1) := by decide +kernel
theorem dX2_goesAhead_38 : decode cX2_goesAhead 38 = .ok (.iaload, 1) := by decide +kernel
theorem dX2_goesAhead_39 : decode cX2_goesAhead 39 = .ok (.if_icmp .le 7, 3) := by decide +kernel
theorem dX2_goesAhead_42 : decode cX2_goesAhead 42 = .ok (.iconst 1, 1) := by decide +kernel
theorem dX2_goesAhead_43 : decode cX2_goesAhead 43 = .ok (.goto 4, 3) := by decide +kernel
theorem dX2_goesAhead_46 : decode cX2_goesAhead 46 = .ok (.iconst 0, 1) := by decide +kernel
theorem dX2_goesAhead_47 : decode cX2_goesAhead 47 = .ok (.ireturn, 1) := by decide +kernel
theorem dX2_goesAhead_48 : decode cX2_goesAhead 48 = .ok (.aload_n 0, 1) := by decide +kernel
theorem dX2_goesAhead_49 : decode cX2_goesAhead 49 = .ok (.getfield 12, 3) := by decide +kernel
theorem dX2_goesAhead_52 : decode cX2_goesAhead 52 = .ok (.getfield 113, 3) := by decide +kernel
theorem dX2_goesAhead_55 : decode cX2_goesAhead 55 = .ok (.iload_n 1, 1) := by decide +kernel
theorem dX2_goesAhead_56 : decode cX2_goesAhead 56 = .ok (.iaload, 1) := by decide +kernel
theorem dX2_goesAhead_57 : decode cX2_goesAhead 57 = .ok (.aload_n 0, 1) := by decide +kernel
theorem dX2_goesAhead_58 : decode cX2_goesAhead 58 = .ok (.getfield 12, 3) := by decide +kernel
theorem dX2_goesAhead_61 : decode cX2_goesAhead 61 = .ok (.getfield 113, 3) := by decide +kernel
theorem dX2_goesAhead_64 : decode cX2_goesAhead 64 = .ok (.iload_n 2, 1) := by decide +kernel
theorem dX2_goesAhead_65 : decode cX2_goesAhead 65 = .ok (.iaload, 1) := by decide +kernel
theorem dX2_goesAhead_66 : decode cX2_goesAhead 66 = .ok (.if_icmp .ge 7, 3) := by decide +kernel
theorem dX2_goesAhead_69 : decode cX2_goesAhead 69 = .ok (.iconst 1, 1) := by decide +kernel
theorem dX2_goesAhead_70 : decode cX2_goesAhead 70 = .ok (.goto 4, 3) := by decide +kernel
theorem dX2_goesAhead_73 : decode cX2_goesAhead 73 = .ok (.iconst 0, 1) := by decide +kernel
theorem dX2_goesAhead_74 : decode cX2_goesAhead 74 = .ok (.ireturn, 1) := by decide +kernel
set_option maxRecDepth 20000 in
theorem ggX2_nearestFree_X2_isFree : GoodIn wsX2_nearestFree wsX2_isFree := goodIn_r _ [8, 9, 10, 11, 12, 13, 14, 15, 16, 17, 18, 19, 20, 21] (by decide +kernel) (by decide +kernel)
set_option maxRecDepth 20000 in
theorem gX2_nearestFree_X2_isFree : GoodIn wsX2_nearestFree (wsV RX2 123 RX2 yX2_isFree wsX2_isFree) := goodIn_app (goodIn_of _ (by decide +kernel)) ggX2_nearestFree_X2_isFree
theorem dX2_nearestFree_0 : decode cX2_nearestFree 0 = .ok (.iconst (-1), 1) := by decide +kernel
theorem dX2_nearestFree_1 : decode cX2_nearestFree 1 = .ok (.istore_n 3, 1) := by decide +kernel
theorem dX2_nearestFree_2 : decode cX2_nearestFree 2 = .ok (.ldc 75, 2) := by decide +kernel
theorem dX2_nearestFree_4 : decode cX2_nearestFree 4 = .ok (.istore 4, 2) := by decide +kernel
theorem dX2_nearestFree_6 : decode cX2_nearestFree 6 = .ok (.iconst 0, 1) := by decide +kernel
theorem dX2_nearestFree_7 : decode cX2_nearestFree 7 = .ok (.istore 5, 2) := by decide +kernel
theorem dX2_nearestFree_9 : decode cX2_nearestFree 9 = .ok (.iload 5, 2) := by decide +kernel
theorem dX2_nearestFree_11 : decode cX2_nearestFree 11 = .ok (.aload_n 0, 1) := by decide +kernel
theorem dX2_nearestFree_12 : decode cX2_nearestFree 12 = .ok (.getfield 46, 3) := by decide +kernel
theorem dX2_nearestFree_15 : decode cX2_nearestFree 15 = .ok (.if_icmp .ge 47, 3) := by decide +kernel
theorem dX2_nearestFree_18 : decode cX2_nearestFree 18 = .ok (.aload_n 0, 1) := by decide +kernel
theorem dX2_nearestFree_19 : decode cX2_nearestFree 19 = .ok (.iload 5, 2) := by decide +kernel
theorem dX2_nearestFree_21 : decode cX2_nearestFree 21 = .ok (.iload_n 1, 1) := by decide +kernel
theorem dX2_nearestFree_22 : decode cX2_nearestFree 22 = .ok (.invokevirtual 123, 3) := by decide +kernel
theorem dX2_nearestFree_25 : decode cX2_nearestFree 25 = .ok (.ifCond .eq 31, 3) := by decide +kernel
theorem dX2_nearestFree_28 : decode cX2_nearestFree 28 = .ok (.aload_n 0, 1) := by decide +kernel
theorem dX2_nearestFree_29 : decode cX2_nearestFree 29 = .ok (.getfield 37, 3) := by decide +kernel
theorem dX2_nearestFree_32 : decode cX2_nearestFree 32 = .ok (.iload 5, 2) := by decide +kernel
theorem dX2_nearestFree_34 : decode cX2_nearestFree 34 = .ok (.aaload, 1) := by decide +kernel
theorem dX2_nearestFree_35 : decode cX2_nearestFree 35 = .ok (.iload_n 2, 1) := by decide +kernel
theorem dX2_nearestFree_36 : decode cX2_nearestFree 36 = .ok (.iaload, 1) := by decide +kernel
theorem dX2_nearestFree_37 : decode cX2_nearestFree 37 = .ok (.iload 4, 2) := by decide +kernel
theorem dX2_nearestFree_39 : decode cX2_nearestFree 39 = .ok (.if_icmp .ge 17, 3) := by decide +kernel
theorem dX2_nearestFree_42 : decode cX2_nearestFree 42 = .ok (.aload_n 0, 1) := by decide +kernel
theorem dX2_nearestFree_43 : decode cX2_nearestFree 43 = .ok (.getfield 37, 3) := by decide +kernel
theorem dX2_nearestFree_46 : decode cX2_nearestFree 46 = .ok (.iload 5, 2) := by decide +kernel
theorem dX2_nearestFree_48 : decode cX2_nearestFree 48 = .ok (.aaload, 1) := by decide +kernel
theorem dX2_nearestFree_49 : decode cX2_nearestFree 49 = .ok (.iload_n 2, 1) := by decide +kernel
theorem dX2_nearestFree_50 : decode cX2_nearestFree 50 = .ok (.iaload, 1) := by decide +kernel
theorem dX2_nearestFree_51 : decode cX2_nearestFree 51 = .ok (.istore 4, 2) := by decide +kernel
theorem dX2_nearestFree_53 : decode cX2_nearestFree 53 = .ok (.iload 5, 2) := by decide +kernel
theorem dX2_nearestFree_55 : decode cX2_nearestFree 55 = .ok (.istore_n 3, 1) := by decide +kernel
theorem dX2_nearestFree_56 : decode cX2_nearestFree 56 = .ok (.iinc 5 1, 3) := by decide +kernel
theorem dX2_nearestFree_59 : decode cX2_nearestFree 59 = .ok (.goto (-50), 3) := by decide +kernel
theorem dX2_nearestFree_62 : decode cX2_nearestFree 62 = .ok (.iload_n 3, 1) := by decide +kernel
theorem dX2_nearestFree_63 : decode cX2_nearestFree 63 = .ok (.ireturn, 1) := by decide +kernel
theorem dX2_isFree_0 : decode cX2_isFree 0 = .ok (.aload_n 0, 1) := by decide +kernel
theorem dX2_isFree_1 : decode cX2_isFree 1 = .ok (.getfield 31, 3) := by decide +kernel
theorem dX2_isFree_4 : decode cX2_isFree 4 = .ok (.iload_n 1, 1) := by decide +kernel
theorem dX2_isFree_5 : decode cX2_isFree 5 = .ok (.baload, 1) := by decide +kernel
theorem dX2_isFree_6 : decode cX2_isFree 6 = .ok (.ifCond .ne 17, 3) := by decide +kernel
theorem dX2_isFree_9 : decode cX2_isFree 9 = .ok (.aload_n 0, 1) := by decide +kernel
theorem dX2_isFree_10 : decode cX2_isFree 10 = .ok (.getfield 40, 3) := by decide +kernel
theorem dX2_isFree_13 : decode cX2_isFree 13 = .ok (.iload_n 1, 1) := by decide +kernel
theorem dX2_isFree_14 : decode cX2_isFree 14 = .ok (.iaload, 1) := by decide +kernel
theorem dX2_isFree_15 : decode cX2_isFree 15 = .ok (.iload_n 2, 1) := by decide +kernel
theorem dX2_isFree_16 : decode cX2_isFree 16 = .ok (.if_icmp .gt 7, 3) := by decide +kernel
theorem dX2_isFree_19 : decode cX2_isFree 19 = .ok (.iconst 1, 1) := by decide +kernel
theorem dX2_isFree_20 : decode cX2_isFree 20 = .ok (.goto 4, 3) := by decide +kernel
theorem dX2_isFree_23 : decode cX2_isFree 23 = .ok (.iconst 0, 1) := by decide +kernel
theorem dX2_isFree_24 : decode cX2_isFree 24 = .ok (.ireturn, 1) := by decide +kernel
set_option maxRecDepth 20000 in
theorem ggX2_isAnyFree_X2_isFree : GoodIn wsX2_isAnyFree wsX2_isFree := goodIn_r _ [6, 7, 8, 9, 10, 11, 12, 13, 14, 15, 16, 17, 18, 19] (by decide +kernel) (by decide +kernel)
set_option maxRecDepth 20000 in
theorem gX2_isAnyFree_X2_isFree : GoodIn wsX2_isAnyFree (wsV RX2 123 RX2 yX2_isFree wsX2_isFree) := goodIn_app (goodIn_of _ (by decide +kernel)) ggX2_isAnyFree_X2_isFree
theorem dX2_isAnyFree_0 : decode cX2_isAnyFree 0 = .ok (.iconst 0, 1) := by decide +kernel
theorem dX2_isAnyFree_1 : decode cX2_isAnyFree 1 = .ok (.istore_n 2, 1) := by decide +kernel
theorem dX2_isAnyFree_2 : decode cX2_isAnyFree 2 = .ok (.iload_n 2, 1) := by decide +kernel
theorem dX2_isAnyFree_3 : decode cX2_isAnyFree 3 = .ok (.aload_n 0, 1) := by decide +kernel
theorem dX2_isAnyFree_4 : decode cX2_isAnyFree 4 = .ok (.getfield 46, 3) := by decide +kernel
theorem dX2_isAnyFree_7 : decode cX2_isAnyFree 7 = .ok (.if_icmp .ge 20, 3) := by decide +kernel
theorem dX2_isAnyFree_10 : decode cX2_isAnyFree 10 = .ok (.aload_n 0, 1) := by decide +kernel
theorem dX2_isAnyFree_11 : decode cX2_isAnyFree 11 = .ok (.iload_n 2, 1) := by decide +kernel
theorem dX2_isAnyFree_12 : decode cX2_isAnyFree 12 = .ok (.iload_n 1, 1) := by decide +kernel
theorem dX2_isAnyFree_13 : decode cX2_isAnyFree 13 = .ok (.invokevirtual 123, 3) := by decide +kernel
theorem dX2_isAnyFree_16 : decode cX2_isAnyFree 16 = .ok (.ifCond .eq 5, 3) := by decide +kernel
theorem dX2_isAnyFree_19 : decode cX2_isAnyFree 19 = .ok (.iconst 1, 1) := by decide +kernel
theorem dX2_isAnyFree_20 : decode cX2_isAnyFree 20 = .ok (.ireturn, 1) := by decide +kernel
theorem dX2_isAnyFree_21 : decode cX2_isAnyFree 21 = .ok (.iinc 2 1, 3) := by decide +kernel
theorem dX2_isAnyFree_24 : decode cX2_isAnyFree 24 = .ok (.goto (-22), 3) := by decide +kernel
theorem dX2_isAnyFree_27 : decode cX2_isAnyFree 27 = .ok (.iconst 0, 1) := by decide +kernel
theorem dX2_isAnyFree_28 : decode cX2_isAnyFree 28 = .ok (.ireturn, 1) := by decide +kernel
theorem dX2_nextEvent_0 : decode cX2_nextEvent 0 = .ok (.ldc 75, 2) := by decide +kernel
theorem dX2_nextEvent_2 : decode cX2_nextEvent 2 = .ok (.istore_n 2, 1) := by decide +kernel
theorem dX2_nextEvent_3 : decode cX2_nextEvent 3 = .ok (.iconst 0, 1) := by decide +kernel
theorem dX2_nextEvent_4 : decode cX2_nextEvent 4 = .ok (.istore_n 3, 1) := by decide +kernel
theorem dX2_nextEvent_5 : decode cX2_nextEvent 5 = .ok (.iload_n 3, 1) := by decide +kernel
theorem dX2_nextEvent_6 : decode cX2_nextEvent 6 = .ok (.aload_n 0, 1) := by decide +kernel
theorem dX2_nextEvent_7 : decode cX2_nextEvent 7 = .ok (.getfield 12, 3) := by decide +kernel
theorem dX2_nextEvent_10 : decode cX2_nextEvent 10 = .ok (.getfield 53, 3) := by decide +kernel
theorem dX2_nextEvent_13 : decode cX2_nextEvent 13 = .ok (.if_icmp .ge 36, 3) := by decide +kernel
theorem dX2_nextEvent_16 : decode cX2_nextEvent 16 = .ok (.aload_n 0, 1) := by decide +kernel
theorem dX2_nextEvent_17 : decode cX2_nextEvent 17 = .ok (.getfield 12, 3) := by decide +kernel
theorem dX2_nextEvent_20 : decode cX2_nextEvent 20 = .ok (.getfield 113, 3) := by decide +kernel
theorem dX2_nextEvent_23 : decode cX2_nextEvent 23 = .ok (.iload_n 3, 1) := by decide +kernel
theorem dX2_nextEvent_24 : decode cX2_nextEvent 24 = .ok (.iaload, 1) := by decide +kernel
theorem dX2_nextEvent_25 : decode cX2_nextEvent 25 = .ok (.iload_n 1, 1) := by decide +kernel
theorem dX2_nextEvent_26 : decode cX2_nextEvent 26 = .ok (.if_icmp .le 17, 3) := by decide +kernel
theorem dX2_nextEvent_29 : decode cX2_nextEvent 29 = .ok (.iload_n 2, 1) := by decide +kernel
theorem dX2_nextEvent_30 : decode cX2_nextEvent 30 = .ok (.aload_n 0, 1) := by decide +kernel
theorem dX2_nextEvent_31 : decode cX2_nextEvent 31 = .ok (.getfield 12, 3) := by decide +kernel
theorem dX2_nextEvent_34 : decode cX2_nextEvent 34 = .ok (.getfield 113, 3) := by decide +kernel
theorem dX2_nextEvent_37 : decode cX2_nextEvent 37 = .ok (.iload_n 3, 1) := by decide +kernel
theorem dX2_nextEvent_38 : decode cX2_nextEvent 38 = .ok (.iaload, 1) := by decide +kernel
theorem dX2_nextEvent_39 : decode cX2_nextEvent 39 = .ok (.invokestatic 88, 3) := by decide +kernel
theorem dX2_nextEvent_42 : decode cX2_nextEvent 42 = .ok (.istore_n 2, 1) := by decide +kernel
theorem dX2_nextEvent_43 : decode cX2_nextEvent 43 = .ok (.iinc 3 1, 3) := by decide +kernel
theorem dX2_nextEvent_46 : decode cX2_nextEvent 46 = .ok (.goto (-41), 3) := by decide +kernel
theorem dX2_nextEvent_49 : decode cX2_nextEvent 49 = .ok (.iconst 0, 1) := by decide +kernel
theorem dX2_nextEvent_50 : decode cX2_nextEvent 50 = .ok (.istore_n 3, 1) := by decide +kernel
theorem dX2_nextEvent_51 : decode cX2_nextEvent 51 = .ok (.iload_n 3, 1) := by decide +kernel
theorem dX2_nextEvent_52 : decode cX2_nextEvent 52 = .ok (.aload_n 0, 1) := by decide +kernel
theorem dX2_nextEvent_53 : decode cX2_nextEvent 53 = .ok (.getfield 46, 3) := by decide +kernel
theorem dX2_nextEvent_56 : decode cX2_nextEvent 56 = .ok (.if_icmp .ge 30, 3) := by decide +kernel
theorem dX2_nextEvent_59 : decode cX2_nextEvent 59 = .ok (.aload_n 0, 1) := by decide +kernel
theorem dX2_nextEvent_60 : decode cX2_nextEvent 60 = .ok (.getfield 40, 3) := by decide +kernel
theorem dX2_nextEvent_63 : decode cX2_nextEvent 63 = .ok (.iload_n 3, 1) := by decide +kernel
theorem dX2_nextEvent_64 : decode cX2_nextEvent 64 = .ok (.iaload, 1) := by decide +kernel
theorem dX2_nextEvent_65 : decode cX2_nextEvent 65 = .ok (.iload_n 1, 1) := by decide +kernel
theorem dX2_nextEvent_66 : decode cX2_nextEvent 66 = .ok (.if_icmp .le 14, 3) := by decide +kernel
theorem dX2_nextEvent_69 : decode cX2_nextEvent 69 = .ok (.iload_n 2, 1) := by decide +kernel
theorem dX2_nextEvent_70 : decode cX2_nextEvent 70 = .ok (.aload_n 0, 1) := by decide +kernel
theorem dX2_nextEvent_71 : decode cX2_nextEvent 71 = .ok (.getfield 40, 3) := by decide +kernel
theorem dX2_nextEvent_74 : decode cX2_nextEvent 74 = .ok (.iload_n 3, 1) := by decide +kernel
theorem dX2_nextEvent_75 : decode cX2_nextEvent 75 = .ok (.iaload, 1) := by decide +kernel
theorem dX2_nextEvent_76 : decode cX2_nextEvent 76 = .ok (.invokestatic 88, 3) := by decide +kernel
theorem dX2_nextEvent_79 : decode cX2_nextEvent 79 = .ok (.istore_n 2, 1) := by decide +kernel
theorem dX2_nextEvent_80 : decode cX2_nextEvent 80 = .ok (.iinc 3 1, 3) := by decide +kernel
theorem dX2_nextEvent_83 : decode cX2_nextEvent 83 = .ok (.goto (-32), 3) := by decide +kernel
theorem dX2_nextEvent_86 : decode cX2_nextEvent 86 = .ok (.iload_n 2, 1) := by decide +kernel
theorem dX2_nextEvent_87 : decode cX2_nextEvent 87 = .ok (.ireturn, 1) := by decide +kernel
theorem dX2_delay_0 : decode cX2_delay 0 = .ok (.aload_n 0, 1) := by decide +kernel
theorem dX2_delay_1 : decode cX2_delay 1 = .ok (.getfield 18, 3) := by decide +kernel
theorem dX2_delay_4 : decode cX2_delay 4 = .ok (.iload_n 1, 1) := by decide +kernel
theorem dX2_delay_5 : decode cX2_delay 5 = .ok (.iaload, 1) := by decide +kernel
theorem dX2_delay_6 : decode cX2_delay 6 = .ok (.iconst (-1), 1) := by decide +kernel
theorem dX2_delay_7 : decode cX2_delay 7 = .ok (.if_icmp .ne 7, 3) := by decide +kernel
theorem dX2_delay_10 : decode cX2_delay 10 = .ok (.iconst (-1), 1) := by decide +kernel
theorem dX2_delay_11 : decode cX2_delay 11 = .ok (.goto 19, 3) := by decide +kernel
theorem dX2_delay_14 : decode cX2_delay 14 = .ok (.aload_n 0, 1) := by decide +kernel
theorem dX2_delay_15 : decode cX2_delay 15 = .ok (.getfield 25, 3) := by decide +kernel
theorem dX2_delay_18 : decode cX2_delay 18 = .ok (.iload_n 1, 1) := by decide +kernel
theorem dX2_delay_19 : decode cX2_delay 19 = .ok (.iaload, 1) := by decide +kernel
theorem dX2_delay_20 : decode cX2_delay 20 = .ok (.aload_n 0, 1) := by decide +kernel
theorem dX2_delay_21 : decode cX2_delay 21 = .ok (.getfield 12, 3) := by decide +kernel
theorem dX2_delay_24 : decode cX2_delay 24 = .ok (.getfield 113, 3) := by decide +kernel
theorem dX2_delay_27 : decode cX2_delay 27 = .ok (.iload_n 1, 1) := by decide +kernel
theorem dX2_delay_28 : decode cX2_delay 28 = .ok (.iaload, 1) := by decide +kernel
theorem dX2_delay_29 : decode cX2_delay 29 = .ok (.isub, 1) := by decide +kernel
theorem dX2_delay_30 : decode cX2_delay 30 = .ok (.ireturn, 1) := by decide +kernel
set_option maxRecDepth 20000 in
theorem ggX2_isLate_X2_delay : GoodIn wsX2_isLate wsX2_delay := goodIn_r _ [6, 1, 7, 8, 9, 10, 11, 12, 13, 14, 15, 16, 17, 18, 19, 20, 21, 22, 23, 24, 25] (by decide +kernel) (by decide +kernel)
set_option maxRecDepth 20000 in
theorem gX2_isLate_X2_delay : GoodIn wsX2_isLate (wsV RX2 126 RX2 yX2_delay wsX2_delay) := goodIn_app (goodIn_of _ (by decide +kernel)) ggX2_isLate_X2_delay
theorem dX2_isLate_0 : decode cX2_isLate 0 = .ok (.aload_n 0, 1) := by decide +kernel
theorem dX2_isLate_1 : decode cX2_isLate 1 = .ok (.getfield 18, 3) := by decide +kernel
theorem dX2_isLate_4 : decode cX2_isLate 4 = .ok (.iload_n 1, 1) := by decide +kernel
theorem dX2_isLate_5 : decode cX2_isLate 5 = .ok (.iaload, 1) := by decide +kernel
theorem dX2_isLate_6 : decode cX2_isLate 6 = .ok (.iconst (-1), 1) := by decide +kernel
theorem dX2_isLate_7 : decode cX2_isLate 7 = .ok (.if_icmp .eq 12, 3) := by decide +kernel
theorem dX2_isLate_10 : decode cX2_isLate 10 = .ok (.aload_n 0, 1) := by decide +kernel
theorem dX2_isLate_11 : decode cX2_isLate 11 = .ok (.iload_n 1, 1) := by decide +kernel
theorem dX2_isLate_12 : decode cX2_isLate 12 = .ok (.invokevirtual 126, 3) := by decide +kernel
theorem dX2_isLate_15 : decode cX2_isLate 15 = .ok (.iload_n 2, 1) := by decide +kernel
theorem dX2_isLate_16 : decode cX2_isLate 16 = .ok (.if_icmp .le 7, 3) := by decide +kernel
theorem dX2_isLate_19 : decode cX2_isLate 19 = .ok (.iconst 1, 1) := by decide +kernel
theorem dX2_isLate_20 : decode cX2_isLate 20 = .ok (.goto 4, 3) := by decide +kernel
theorem dX2_isLate_23 : decode cX2_isLate 23 = .ok (.iconst 0, 1) := by decide +kernel
theorem dX2_isLate_24 : decode cX2_isLate 24 = .ok (.ireturn, 1) := by decide +kernel
set_option maxRecDepth 20000 in
theorem ggX2_whyLate_X2_isLate : GoodIn wsX2_whyLate wsX2_isLate := goodIn_r _ [7, 1, 8, 9, 10, 6, 11, 12, 13, 14, 15, 16, 17, 18, 19, 20, 21, 22, 23, 24, 25, 26, 27, 28, 29, 30] (by decide +kernel) (by decide +kernel)
set_option maxRecDepth 20000 in
theorem gX2_whyLate_X2_isLate : GoodIn wsX2_whyLate (wsV RX2 129 RX2 yX2_isLate wsX2_isLate) := goodIn_app (goodIn_of _ (by decide +kernel)) ggX2_whyLate_X2_isLate
theorem dX2_whyLate_0 : decode cX2_whyLate 0 = .ok (.aload_n 0, 1) := by decide +kernel
theorem dX2_whyLate_1 : decode cX2_whyLate 1 = .ok (.iload_n 1, 1) := by decide +kernel
theorem dX2_whyLate_2 : decode cX2_whyLate 2 = .ok (.iload_n 2, 1) := by decide +kernel
theorem dX2_whyLate_3 : decode cX2_whyLate 3 = .ok (.invokevirtual 129, 3) := by decide +kernel
theorem dX2_whyLate_6 : decode cX2_whyLate 6 = .ok (.ifCond .ne 5, 3) := by decide +kernel
theorem dX2_whyLate_9 : decode cX2_whyLate 9 = .ok (.iconst 0, 1) := by decide +kernel
theorem dX2_whyLate_10 : decode cX2_whyLate 10 = .ok (.ireturn, 1) := by decide +kernel
theorem dX2_whyLate_11 : decode cX2_whyLate 11 = .ok (.aload_n 0, 1) := by decide +kernel
theorem dX2_whyLate_12 : decode cX2_whyLate 12 = .ok (.getfield 18, 3) := by decide +kernel
theorem dX2_whyLate_15 : decode cX2_whyLate 15 = .ok (.iload_n 1, 1) := by decide +kernel
theorem dX2_whyLate_16 : decode cX2_whyLate 16 = .ok (.iaload, 1) := by decide +kernel
theorem dX2_whyLate_17 : decode cX2_whyLate 17 = .ok (.iconst (-1), 1) := by decide +kernel
theorem dX2_whyLate_18 : decode cX2_whyLate 18 = .ok (.if_icmp .ne 5, 3) := by decide +kernel
theorem dX2_whyLate_21 : decode cX2_whyLate 21 = .ok (.iconst 3, 1) := by decide +kernel
theorem dX2_whyLate_22 : decode cX2_whyLate 22 = .ok (.ireturn, 1) := by decide +kernel
theorem dX2_whyLate_23 : decode cX2_whyLate 23 = .ok (.aload_n 0, 1) := by decide +kernel
theorem dX2_whyLate_24 : decode cX2_whyLate 24 = .ok (.getfield 22, 3) := by decide +kernel
theorem dX2_whyLate_27 : decode cX2_whyLate 27 = .ok (.iload_n 1, 1) := by decide +kernel
theorem dX2_whyLate_28 : decode cX2_whyLate 28 = .ok (.iaload, 1) := by decide +kernel
theorem dX2_whyLate_29 : decode cX2_whyLate 29 = .ok (.iload_n 2, 1) := by decide +kernel
theorem dX2_whyLate_30 : decode cX2_whyLate 30 = .ok (.if_icmp .le 7, 3) := by decide +kernel
theorem dX2_whyLate_33 : decode cX2_whyLate 33 = .ok (.iconst 2, 1) := by decide +kernel
theorem dX2_whyLate_34 : decode cX2_whyLate 34 = .ok (.goto 4, 3) := by decide +kernel
theorem dX2_whyLate_37 : decode cX2_whyLate 37 = .ok (.iconst 1, 1) := by decide +kernel
theorem dX2_whyLate_38 : decode cX2_whyLate 38 = .ok (.ireturn, 1) := by decide +kernel
set_option maxRecDepth 20000 in
theorem ggX2_countLate_X2_isLate : GoodIn wsX2_countLate wsX2_isLate := goodIn_r _ [7, 8, 9, 10, 11, 6, 12, 13, 1, 14, 15, 16, 17, 18, 19, 20, 21, 22, 23, 24, 25, 26, 27, 28, 29, 30] (by decide +kernel) (by decide +kernel)
set_option maxRecDepth 20000 in
theorem gX2_countLate_X2_isLate : GoodIn wsX2_countLate (wsV RX2 129 RX2 yX2_isLate wsX2_isLate) := goodIn_app (goodIn_of _ (by decide +kernel)) ggX2_countLate_X2_isLate
theorem dX2_countLate_0 : decode cX2_countLate 0 = .ok (.iconst 0, 1) := by decide +kernel
theorem dX2_countLate_1 : decode cX2_countLate 1 = .ok (.istore_n 2, 1) := by decide +kernel
theorem dX2_countLate_2 : decode cX2_countLate 2 = .ok (.iconst 0, 1) := by decide +kernel
theorem dX2_countLate_3 : decode cX2_countLate 3 = .ok (.istore_n 3, 1) := by decide +kernel
theorem dX2_countLate_4 : decode cX2_countLate 4 = .ok (.iload_n 3, 1) := by decide +kernel
theorem dX2_countLate_5 : decode cX2_countLate 5 = .ok (.aload_n 0, 1) := by decide +kernel
theorem dX2_countLate_6 : decode cX2_countLate 6 = .ok (.getfield 12, 3) := by decide +kernel
theorem dX2_countLate_9 : decode cX2_countLate 9 = .ok (.getfield 53, 3) := by decide +kernel
theorem dX2_countLate_12 : decode cX2_countLate 12 = .ok (.if_icmp .ge 21, 3) := by decide +kernel
theorem dX2_countLate_15 : decode cX2_countLate 15 = .ok (.aload_n 0, 1) := by decide +kernel
theorem dX2_countLate_16 : decode cX2_countLate 16 = .ok (.iload_n 3, 1) := by decide +kernel
theorem dX2_countLate_17 : decode cX2_countLate 17 = .ok (.iload_n 1, 1) := by decide +kernel
theorem dX2_countLate_18 : decode cX2_countLate 18 = .ok (.invokevirtual 129, 3) := by decide +kernel
theorem dX2_countLate_21 : decode cX2_countLate 21 = .ok (.ifCond .eq 6, 3) := by decide +kernel
theorem dX2_countLate_24 : decode cX2_countLate 24 = .ok (.iinc 2 1, 3) := by decide +kernel
theorem dX2_countLate_27 : decode cX2_countLate 27 = .ok (.iinc 3 1, 3) := by decide +kernel
theorem dX2_countLate_30 : decode cX2_countLate 30 = .ok (.goto (-26), 3) := by decide +kernel
theorem dX2_countLate_33 : decode cX2_countLate 33 = .ok (.iload_n 2, 1) := by decide +kernel
theorem dX2_countLate_34 : decode cX2_countLate 34 = .ok (.ireturn, 1) := by decide +kernel
theorem dX2_countServed_0 : decode cX2_countServed 0 = .ok (.iconst 0, 1) := by decide +kernel
theorem dX2_countServed_1 : decode cX2_countServed 1 = .ok (.istore_n 1, 1) := by decide +kernel
theorem dX2_countServed_2 : decode cX2_countServed 2 = .ok (.iconst 0, 1) := by decide +kernel
theorem dX2_countServed_3 : decode cX2_countServed 3 = .ok (.istore_n 2, 1) := by decide +kernel
theorem dX2_countServed_4 : decode cX2_countServed 4 = .ok (.iload_n 2, 1) := by decide +kernel
theorem dX2_countServed_5 : decode cX2_countServed 5 = .ok (.aload_n 0, 1) := by decide +kernel
theorem dX2_countServed_6 : decode cX2_countServed 6 = .ok (.getfield 12, 3) := by decide +kernel
theorem dX2_countServed_9 : decode cX2_countServed 9 = .ok (.getfield 53, 3) := by decide +kernel
theorem dX2_countServed_12 : decode cX2_countServed 12 = .ok (.if_icmp .ge 22, 3) := by decide +kernel
theorem dX2_countServed_15 : decode cX2_countServed 15 = .ok (.aload_n 0, 1) := by decide +kernel
theorem dX2_countServed_16 : decode cX2_countServed 16 = .ok (.getfield 18, 3) := by decide +kernel
theorem dX2_countServed_19 : decode cX2_countServed 19 = .ok (.iload_n 2, 1) := by decide +kernel
theorem dX2_countServed_20 : decode cX2_countServed 20 = .ok (.iaload, 1) := by decide +kernel
theorem dX2_countServed_21 : decode cX2_countServed 21 = .ok (.iconst (-1), 1) := by decide +kernel
theorem dX2_countServed_22 : decode cX2_countServed 22 = .ok (.if_icmp .eq 6, 3) := by decide +kernel
theorem dX2_countServed_25 : decode cX2_countServed 25 = .ok (.iinc 1 1, 3) := by decide +kernel
theorem dX2_countServed_28 : decode cX2_countServed 28 = .ok (.iinc 2 1, 3) := by decide +kernel
theorem dX2_countServed_31 : decode cX2_countServed 31 = .ok (.goto (-27), 3) := by decide +kernel
theorem dX2_countServed_34 : decode cX2_countServed 34 = .ok (.iload_n 1, 1) := by decide +kernel
theorem dX2_countServed_35 : decode cX2_countServed 35 = .ok (.ireturn, 1) := by decide +kernel
theorem dX2_countArrivedBy_0 : decode cX2_countArrivedBy 0 = .ok (.iconst 0, 1) := by decide +kernel
theorem dX2_countArrivedBy_1 : decode cX2_countArrivedBy 1 = .ok (.istore_n 2, 1) := by decide +kernel
theorem dX2_countArrivedBy_2 : decode cX2_countArrivedBy 2 = .ok (.iconst 0, 1) := by decide +kernel
theorem dX2_countArrivedBy_3 : decode cX2_countArrivedBy 3 = .ok (.istore_n 3, 1) := by decide +kernel
theorem dX2_countArrivedBy_4 : decode cX2_countArrivedBy 4 = .ok (.iload_n 3, 1) := by decide +kernel
theorem dX2_countArrivedBy_5 : decode cX2_countArrivedBy 5 = .ok (.aload_n 0, 1) := by decide +kernel
theorem dX2_countArrivedBy_6 : decode cX2_countArrivedBy 6 = .ok (.getfield 12, 3) := by decide +kernel
theorem dX2_countArrivedBy_9 : decode cX2_countArrivedBy 9 = .ok (.getfield 53, 3) := by decide +kernel
theorem dX2_countArrivedBy_12 : decode cX2_countArrivedBy 12 = .ok (.if_icmp .ge 32, 3) := by decide +kernel
theorem dX2_countArrivedBy_15 : decode cX2_countArrivedBy 15 = .ok (.aload_n 0, 1) := by decide +kernel
theorem dX2_countArrivedBy_16 : decode cX2_countArrivedBy 16 = .ok (.getfield 18, 3) := by decide +kernel
theorem dX2_countArrivedBy_19 : decode cX2_countArrivedBy 19 = .ok (.iload_n 3, 1) := by decide +kernel
theorem dX2_countArrivedBy_20 : decode cX2_countArrivedBy 20 = .ok (.iaload, 1) := by decide +kernel
theorem dX2_countArrivedBy_21 : decode cX2_countArrivedBy 21 = .ok (.iconst (-1), 1) := by decide +kernel
theorem dX2_countArrivedBy_22 : decode cX2_countArrivedBy 22 = .ok (.if_icmp .eq 16, 3) := by decide +kernel
theorem dX2_countArrivedBy_25 : decode cX2_countArrivedBy 25 = .ok (.aload_n 0, 1) := by decide +kernel
theorem dX2_countArrivedBy_26 : decode cX2_countArrivedBy 26 = .ok (.getfield 25, 3) := by decide +kernel
theorem dX2_countArrivedBy_29 : decode cX2_countArrivedBy 29 = .ok (.iload_n 3, 1) := by decide +kernel
theorem dX2_countArrivedBy_30 : decode cX2_countArrivedBy 30 = .ok (.iaload, 1) := by decide +kernel
theorem dX2_countArrivedBy_31 : decode cX2_countArrivedBy 31 = .ok (.iload_n 1, 1) := by decide +kernel
theorem dX2_countArrivedBy_32 : decode cX2_countArrivedBy 32 = .ok (.if_icmp .gt 6, 3) := by decide +kernel
theorem dX2_countArrivedBy_35 : decode cX2_countArrivedBy 35 = .ok (.iinc 2 1, 3) := by decide +kernel
theorem dX2_countArrivedBy_38 : decode cX2_countArrivedBy 38 = .ok (.iinc 3 1, 3) := by decide +kernel
theorem dX2_countArrivedBy_41 : decode cX2_countArrivedBy 41 = .ok (.goto (-37), 3) := by decide +kernel
theorem dX2_countArrivedBy_44 : decode cX2_countArrivedBy 44 = .ok (.iload_n 2, 1) := by decide +kernel
theorem dX2_countArrivedBy_45 : decode cX2_countArrivedBy 45 = .ok (.ireturn, 1) := by decide +kernel
set_option maxRecDepth 20000 in
theorem ggX2_sumOfDelays_X2_delay : GoodIn wsX2_sumOfDelays wsX2_delay := goodIn_r _ [8, 3, 9, 1, 10, 11, 12, 13, 14, 15, 16, 17, 18, 19, 20, 21, 22, 23, 24, 25, 26] (by decide +kernel) (by decide +kernel)
set_option maxRecDepth 20000 in
theorem gX2_sumOfDelays_X2_delay : GoodIn wsX2_sumOfDelays (wsV RX2 126 RX2 yX2_delay wsX2_delay) := goodIn_app (goodIn_of _ (by decide +kernel)) ggX2_sumOfDelays_X2_delay
theorem dX2_sumOfDelays_0 : decode cX2_sumOfDelays 0 = .ok (.lconst 0, 1) := by decide +kernel
theorem dX2_sumOfDelays_1 : decode cX2_sumOfDelays 1 = .ok (.lstore_n 1, 1) := by decide +kernel
theorem dX2_sumOfDelays_2 : decode cX2_sumOfDelays 2 = .ok (.iconst 0, 1) := by decide +kernel
theorem dX2_sumOfDelays_3 : decode cX2_sumOfDelays 3 = .ok (.istore_n 3, 1) := by decide +kernel
theorem dX2_sumOfDelays_4 : decode cX2_sumOfDelays 4 = .ok (.iload_n 3, 1) := by decide +kernel
theorem dX2_sumOfDelays_5 : decode cX2_sumOfDelays 5 = .ok (.aload_n 0, 1) := by decide +kernel
theorem dX2_sumOfDelays_6 : decode cX2_sumOfDelays 6 = .ok (.getfield 12, 3) := by decide +kernel
theorem dX2_sumOfDelays_9 : decode cX2_sumOfDelays 9 = .ok (.getfield 53, 3) := by decide +kernel
theorem dX2_sumOfDelays_12 : decode cX2_sumOfDelays 12 = .ok (.if_icmp .ge 28, 3) := by decide +kernel
theorem dX2_sumOfDelays_15 : decode cX2_sumOfDelays 15 = .ok (.aload_n 0, 1) := by decide +kernel
theorem dX2_sumOfDelays_16 : decode cX2_sumOfDelays 16 = .ok (.getfield 18, 3) := by decide +kernel
theorem dX2_sumOfDelays_19 : decode cX2_sumOfDelays 19 = .ok (.iload_n 3, 1) := by decide +kernel
theorem dX2_sumOfDelays_20 : decode cX2_sumOfDelays 20 = .ok (.iaload, 1) := by decide +kernel
theorem dX2_sumOfDelays_21 : decode cX2_sumOfDelays 21 = .ok (.iconst (-1), 1) := by decide +kernel
theorem dX2_sumOfDelays_22 : decode cX2_sumOfDelays 22 = .ok (.if_icmp .eq 12, 3) := by decide +kernel
theorem dX2_sumOfDelays_25 : decode cX2_sumOfDelays 25 = .ok (.lload_n 1, 1) := by decide +kernel
theorem dX2_sumOfDelays_26 : decode cX2_sumOfDelays 26 = .ok (.aload_n 0, 1) := by decide +kernel
theorem dX2_sumOfDelays_27 : decode cX2_sumOfDelays 27 = .ok (.iload_n 3, 1) := by decide +kernel
theorem dX2_sumOfDelays_28 : decode cX2_sumOfDelays 28 = .ok (.invokevirtual 126, 3) := by decide +kernel
theorem dX2_sumOfDelays_31 : decode cX2_sumOfDelays 31 = .ok (.i2l, 1) := by decide +kernel
theorem dX2_sumOfDelays_32 : decode cX2_sumOfDelays 32 = .ok (.ladd, 1) := by decide +kernel
theorem dX2_sumOfDelays_33 : decode cX2_sumOfDelays 33 = .ok (.lstore_n 1, 1) := by decide +kernel
theorem dX2_sumOfDelays_34 : decode cX2_sumOfDelays 34 = .ok (.iinc 3 1, 3) := by decide +kernel
theorem dX2_sumOfDelays_37 : decode cX2_sumOfDelays 37 = .ok (.goto (-33), 3) := by decide +kernel
theorem dX2_sumOfDelays_40 : decode cX2_sumOfDelays 40 = .ok (.lload_n 1, 1) := by decide +kernel
theorem dX2_sumOfDelays_41 : decode cX2_sumOfDelays 41 = .ok (.lreturn, 1) := by decide +kernel
set_option maxRecDepth 20000 in
theorem ggX2_hourOfMostLate_X2_isLate : GoodIn wsX2_hourOfMostLate wsX2_isLate := goodIn_r _ [9, 10, 11, 12, 13, 8, 14, 15, 2, 4, 16, 17, 18, 19, 20, 21, 22, 23, 24, 25, 26, 27, 28, 29, 30, 31] (by decide +kernel) (by decide +kernel)
set_option maxRecDepth 20000 in
theorem gX2_hourOfMostLate_X2_isLate : GoodIn wsX2_hourOfMostLate (wsV RX2 129 RX2 yX2_isLate wsX2_isLate) := goodIn_app (goodIn_of _ (by decide +kernel)) ggX2_hourOfMostLate_X2_isLate
theorem dX2_hourOfMostLate_0 : decode cX2_hourOfMostLate 0 = .ok (.iconst 0, 1) := by decide +kernel
theorem dX2_hourOfMostLate_1 : decode cX2_hourOfMostLate 1 = .ok (.istore_n 2, 1) := by decide +kernel
theorem dX2_hourOfMostLate_2 : decode cX2_hourOfMostLate 2 = .ok (.iload_n 2, 1) := by decide +kernel
theorem dX2_hourOfMostLate_3 : decode cX2_hourOfMostLate 3 = .ok (.bipush 24, 2) := by decide +kernel
theorem dX2_hourOfMostLate_5 : decode cX2_hourOfMostLate 5 = .ok (.if_icmp .ge 16, 3) := by decide +kernel
theorem dX2_hourOfMostLate_8 : decode cX2_hourOfMostLate 8 = .ok (.aload_n 0, 1) := by decide +kernel
theorem dX2_hourOfMostLate_9 : decode cX2_hourOfMostLate 9 = .ok (.getfield 43, 3) := by decide +kernel
theorem dX2_hourOfMostLate_12 : decode cX2_hourOfMostLate 12 = .ok (.iload_n 2, 1) := by decide +kernel
theorem dX2_hourOfMostLate_13 : decode cX2_hourOfMostLate 13 = .ok (.iconst 0, 1) := by decide +kernel
theorem dX2_hourOfMostLate_14 : decode cX2_hourOfMostLate 14 = .ok (.iastore, 1) := by decide +kernel
theorem dX2_hourOfMostLate_15 : decode cX2_hourOfMostLate 15 = .ok (.iinc 2 1, 3) := by decide +kernel
theorem dX2_hourOfMostLate_18 : decode cX2_hourOfMostLate 18 = .ok (.goto (-16), 3) := by decide +kernel
theorem dX2_hourOfMostLate_21 : decode cX2_hourOfMostLate 21 = .ok (.iconst 0, 1) := by decide +kernel
theorem dX2_hourOfMostLate_22 : decode cX2_hourOfMostLate 22 = .ok (.istore_n 2, 1) := by decide +kernel
theorem dX2_hourOfMostLate_23 : decode cX2_hourOfMostLate 23 = .ok (.iload_n 2, 1) := by decide +kernel
theorem dX2_hourOfMostLate_24 : decode cX2_hourOfMostLate 24 = .ok (.aload_n 0, 1) := by decide +kernel
theorem dX2_hourOfMostLate_25 : decode cX2_hourOfMostLate 25 = .ok (.getfield 12, 3) := by decide +kernel
theorem dX2_hourOfMostLate_28 : decode cX2_hourOfMostLate 28 = .ok (.getfield 53, 3) := by decide +kernel
theorem dX2_hourOfMostLate_31 : decode cX2_hourOfMostLate 31 = .ok (.if_icmp .ge 39, 3) := by decide +kernel
theorem dX2_hourOfMostLate_34 : decode cX2_hourOfMostLate 34 = .ok (.aload_n 0, 1) := by decide +kernel
theorem dX2_hourOfMostLate_35 : decode cX2_hourOfMostLate 35 = .ok (.iload_n 2, 1) := by decide +kernel
theorem dX2_hourOfMostLate_36 : decode cX2_hourOfMostLate 36 = .ok (.iload_n 1, 1) := by decide +kernel
theorem dX2_hourOfMostLate_37 : decode cX2_hourOfMostLate 37 = .ok (.invokevirtual 129, 3) := by decide +kernel
theorem dX2_hourOfMostLate_40 : decode cX2_hourOfMostLate 40 = .ok (.ifCond .eq 24, 3) := by decide +kernel
theorem dX2_hourOfMostLate_43 : decode cX2_hourOfMostLate 43 = .ok (.aload_n 0, 1) := by decide +kernel
theorem dX2_hourOfMostLate_44 : decode cX2_hourOfMostLate 44 = .ok (.getfield 43, 3) := by decide +kernel
theorem dX2_hourOfMostLate_47 : decode cX2_hourOfMostLate 47 = .ok (.aload_n 0, 1) := by decide +kernel
theorem dX2_hourOfMostLate_48 : decode cX2_hourOfMostLate 48 = .ok (.getfield 12, 3) := by decide +kernel
theorem dX2_hourOfMostLate_51 : decode cX2_hourOfMostLate 51 = .ok (.getfield 113, 3) := by decide +kernel
theorem dX2_hourOfMostLate_54 : decode cX2_hourOfMostLate 54 = .ok (.iload_n 2, 1) := by decide +kernel
theorem dX2_hourOfMostLate_55 : decode cX2_hourOfMostLate 55 = .ok (.iaload, 1) := by decide +kernel
theorem dX2_hourOfMostLate_56 : decode cX2_hourOfMostLate 56 = .ok (.bipush 60, 2) := by decide +kernel
theorem dX2_hourOfMostLate_58 : decode cX2_hourOfMostLate 58 = .ok (.idiv, 1) := by decide +kernel
theorem dX2_hourOfMostLate_59 : decode cX2_hourOfMostLate 59 = .ok (.dup2, 1) := by decide +kernel
theorem dX2_hourOfMostLate_60 : decode cX2_hourOfMostLate 60 = .ok (.iaload, 1) := by decide +kernel
theorem dX2_hourOfMostLate_61 : decode cX2_hourOfMostLate 61 = .ok (.iconst 1, 1) := by decide +kernel
theorem dX2_hourOfMostLate_62 : decode cX2_hourOfMostLate 62 = .ok (.iadd, 1) := by decide +kernel
theorem dX2_hourOfMostLate_63 : decode cX2_hourOfMostLate 63 = .ok (.iastore, 1) := by decide +kernel
theorem dX2_hourOfMostLate_64 : decode cX2_hourOfMostLate 64 = .ok (.iinc 2 1, 3) := by decide +kernel
theorem dX2_hourOfMostLate_67 : decode cX2_hourOfMostLate 67 = .ok (.goto (-44), 3) := by decide +kernel
theorem dX2_hourOfMostLate_70 : decode cX2_hourOfMostLate 70 = .ok (.iconst (-1), 1) := by decide +kernel
theorem dX2_hourOfMostLate_71 : decode cX2_hourOfMostLate 71 = .ok (.istore_n 2, 1) := by decide +kernel
theorem dX2_hourOfMostLate_72 : decode cX2_hourOfMostLate 72 = .ok (.iconst 0, 1) := by decide +kernel
theorem dX2_hourOfMostLate_73 : decode cX2_hourOfMostLate 73 = .ok (.istore_n 3, 1) := by decide +kernel
theorem dX2_hourOfMostLate_74 : decode cX2_hourOfMostLate 74 = .ok (.iconst 0, 1) := by decide +kernel
theorem dX2_hourOfMostLate_75 : decode cX2_hourOfMostLate 75 = .ok (.istore 4, 2) := by decide +kernel
theorem dX2_hourOfMostLate_77 : decode cX2_hourOfMostLate 77 = .ok (.iload 4, 2) := by decide +kernel
theorem dX2_hourOfMostLate_79 : decode cX2_hourOfMostLate 79 = .ok (.bipush 24, 2) := by decide +kernel
theorem dX2_hourOfMostLate_81 : decode cX2_hourOfMostLate 81 = .ok (.if_icmp .ge 31, 3) := by decide +kernel
theorem dX2_hourOfMostLate_84 : decode cX2_hourOfMostLate 84 = .ok (.aload_n 0, 1) := by decide +kernel
theorem dX2_hourOfMostLate_85 : decode cX2_hourOfMostLate 85 = .ok (.getfield 43, 3) := by decide +kernel
theorem dX2_hourOfMostLate_88 : decode cX2_hourOfMostLate 88 = .ok (.iload 4, 2) := by decide +kernel
theorem dX2_hourOfMostLate_90 : decode cX2_hourOfMostLate 90 = .ok (.iaload, 1) := by decide +kernel
theorem dX2_hourOfMostLate_91 : decode cX2_hourOfMostLate 91 = .ok (.iload_n 3, 1) := by decide +kernel
theorem dX2_hourOfMostLate_92 : decode cX2_hourOfMostLate 92 = .ok (.if_icmp .le 14, 3) := by decide +kernel
theorem dX2_hourOfMostLate_95 : decode cX2_hourOfMostLate 95 = .ok (.aload_n 0, 1) := by decide +kernel
theorem dX2_hourOfMostLate_96 : decode cX2_hourOfMostLate 96 = .ok (.getfield 43, 3) := by decide +kernel
theorem dX2_hourOfMostLate_99 : decode cX2_hourOfMostLate 99 = .ok (.iload 4, 2) := by decide +kernel
theorem dX2_hourOfMostLate_101 : decode cX2_hourOfMostLate 101 = .ok (.iaload, 1) := by decide +kernel
theorem dX2_hourOfMostLate_102 : decode cX2_hourOfMostLate 102 = .ok (.istore_n 3, 1) := by decide +kernel
theorem dX2_hourOfMostLate_103 : decode cX2_hourOfMostLate 103 = .ok (.iload 4, 2) := by decide +kernel
theorem dX2_hourOfMostLate_105 : decode cX2_hourOfMostLate 105 = .ok (.istore_n 2, 1) := by decide +kernel
theorem dX2_hourOfMostLate_106 : decode cX2_hourOfMostLate 106 = .ok (.iinc 4 1, 3) := by decide +kernel
theorem dX2_hourOfMostLate_109 : decode cX2_hourOfMostLate 109 = .ok (.goto (-32), 3) := by decide +kernel
theorem dX2_hourOfMostLate_112 : decode cX2_hourOfMostLate 112 = .ok (.iload_n 2, 1) := by decide +kernel
theorem dX2_hourOfMostLate_113 : decode cX2_hourOfMostLate 113 = .ok (.ireturn, 1) := by decide +kernel
theorem dX3_init_0 : decode cX3_init 0 = .ok (.aload_n 0, 1) := by decide +kernel
theorem dX3_init_1 : decode cX3_init 1 = .ok (.invokespecial 3, 3) := by decide +kernel
theorem dX3_init_4 : decode cX3_init 4 = .ok (.aload_n 0, 1) := by decide +kernel
theorem dX3_init_5 : decode cX3_init 5 = .ok (.bipush 6, 2) := by decide +kernel
theorem dX3_init_7 : decode cX3_init 7 = .ok (.newarray .int, 2) := by decide +kernel
theorem dX3_init_9 : decode cX3_init 9 = .ok (.putfield 9, 3) := by decide +kernel
theorem dX3_init_12 : decode cX3_init 12 = .ok (.aload_n 0, 1) := by decide +kernel
theorem dX3_init_13 : decode cX3_init 13 = .ok (.bipush 6, 2) := by decide +kernel
theorem dX3_init_15 : decode cX3_init 15 = .ok (.newarray .int, 2) := by decide +kernel
theorem dX3_init_17 : decode cX3_init 17 = .ok (.putfield 15, 3) := by decide +kernel
theorem dX3_init_20 : decode cX3_init 20 = .ok (.aload_n 0, 1) := by decide +kernel
theorem dX3_init_21 : decode cX3_init 21 = .ok (.bipush 10, 2) := by decide +kernel
theorem dX3_init_23 : decode cX3_init 23 = .ok (.newarray .int, 2) := by decide +kernel
theorem dX3_init_25 : decode cX3_init 25 = .ok (.putfield 18, 3) := by decide +kernel
theorem dX3_init_28 : decode cX3_init 28 = .ok (.aload_n 0, 1) := by decide +kernel
theorem dX3_init_29 : decode cX3_init 29 = .ok (.bipush 10, 2) := by decide +kernel
theorem dX3_init_31 : decode cX3_init 31 = .ok (.newarray .int, 2) := by decide +kernel
theorem dX3_init_33 : decode cX3_init 33 = .ok (.putfield 21, 3) := by decide +kernel
theorem dX3_init_36 : decode cX3_init 36 = .ok (.aload_n 0, 1) := by decide +kernel
theorem dX3_init_37 : decode cX3_init 37 = .ok (.bipush 10, 2) := by decide +kernel
theorem dX3_init_39 : decode cX3_init 39 = .ok (.newarray .int, 2) := by decide +kernel
theorem dX3_init_41 : decode cX3_init 41 = .ok (.putfield 24, 3) := by decide +kernel
theorem dX3_init_44 : decode cX3_init 44 = .ok (.aload_n 0, 1) := by decide +kernel
theorem dX3_init_45 : decode cX3_init 45 = .ok (.iconst 0, 1) := by decide +kernel
theorem dX3_init_46 : decode cX3_init 46 = .ok (.putfield 27, 3) := by decide +kernel
theorem dX3_init_49 : decode cX3_init 49 = .ok (.aload_n 0, 1) := by decide +kernel
theorem dX3_init_50 : decode cX3_init 50 = .ok (.iconst 0, 1) := by decide +kernel
theorem dX3_init_51 : decode cX3_init 51 = .ok (.putfield 31, 3) := by decide +kernel
theorem dX3_init_54 : decode cX3_init 54 = .ok (.aload_n 0, 1) := by decide +kernel
theorem dX3_init_55 : decode cX3_init 55 = .ok (.iconst 0, 1) := by decide +kernel
theorem dX3_init_56 : decode cX3_init 56 = .ok (.putfield 34, 3) := by decide +kernel
theorem dX3_init_59 : decode cX3_init 59 = .ok (.return_, 1) := by decide +kernel
theorem dX3_addStation_0 : decode cX3_addStation 0 = .ok (.aload_n 0, 1) := by decide +kernel
theorem dX3_addStation_1 : decode cX3_addStation 1 = .ok (.getfield 9, 3) := by decide +kernel
theorem dX3_addStation_4 : decode cX3_addStation 4 = .ok (.aload_n 0, 1) := by decide +kernel
theorem dX3_addStation_5 : decode cX3_addStation 5 = .ok (.getfield 27, 3) := by decide +kernel
theorem dX3_addStation_8 : decode cX3_addStation 8 = .ok (.iload_n 1, 1) := by decide +kernel
theorem dX3_addStation_9 : decode cX3_addStation 9 = .ok (.iastore, 1) := by decide +kernel
theorem dX3_addStation_10 : decode cX3_addStation 10 = .ok (.aload_n 0, 1) := by decide +kernel
theorem dX3_addStation_11 : decode cX3_addStation 11 = .ok (.getfield 15, 3) := by decide +kernel
theorem dX3_addStation_14 : decode cX3_addStation 14 = .ok (.aload_n 0, 1) := by decide +kernel
theorem dX3_addStation_15 : decode cX3_addStation 15 = .ok (.getfield 27, 3) := by decide +kernel
theorem dX3_addStation_18 : decode cX3_addStation 18 = .ok (.iload_n 2, 1) := by decide +kernel
theorem dX3_addStation_19 : decode cX3_addStation 19 = .ok (.iastore, 1) := by decide +kernel
theorem dX3_addStation_20 : decode cX3_addStation 20 = .ok (.aload_n 0, 1) := by decide +kernel
theorem dX3_addStation_21 : decode cX3_addStation 21 = .ok (.dup, 1) := by decide +kernel
theorem dX3_addStation_22 : decode cX3_addStation 22 = .ok (.getfield 27, 3) := by decide +kernel
theorem dX3_addStation_25 : decode cX3_addStation 25 = .ok (.dup_x1, 1) := by decide +kernel
theorem dX3_addStation_26 : decode cX3_addStation 26 = .ok (.iconst 1, 1) := by decide +kernel
theorem dX3_addStation_27 : decode cX3_addStation 27 = .ok (.iadd, 1) := by decide +kernel
theorem dX3_addStation_28 : decode cX3_addStation 28 = .ok (.putfield 27, 3) := by decide +kernel
theorem dX3_addStation_31 : decode cX3_addStation 31 = .ok (.ireturn, 1) := by decide +kernel
theorem dX3_addArea_0 : decode cX3_addArea 0 = .ok (.aload_n 0, 1) := by decide +kernel
theorem dX3_addArea_1 : decode cX3_addArea 1 = .ok (.getfield 18, 3) := by decide +kernel
theorem dX3_addArea_4 : decode cX3_addArea 4 = .ok (.aload_n 0, 1) := by decide +kernel
theorem dX3_addArea_5 : decode cX3_addArea 5 = .ok (.getfield 31, 3) := by decide +kernel
theorem dX3_addArea_8 : decode cX3_addArea 8 = .ok (.iload_n 1, 1) := by decide +kernel
theorem dX3_addArea_9 : decode cX3_addArea 9 = .ok (.iastore, 1) := by decide +kernel
theorem dX3_addArea_10 : decode cX3_addArea 10 = .ok (.aload_n 0, 1) := by decide +kernel
theorem dX3_addArea_11 : decode cX3_addArea 11 = .ok (.getfield 21, 3) := by decide +kernel
theorem dX3_addArea_14 : decode cX3_addArea 14 = .ok (.aload_n 0, 1) := by decide +kernel
theorem dX3_addArea_15 : decode cX3_addArea 15 = .ok (.getfield 31, 3) := by decide +kernel
theorem dX3_addArea_18 : decode cX3_addArea 18 = .ok (.iload_n 2, 1) := by decide +kernel
theorem dX3_addArea_19 : decode cX3_addArea 19 = .ok (.iastore, 1) := by decide +kernel
theorem dX3_addArea_20 : decode cX3_addArea 20 = .ok (.aload_n 0, 1) := by decide +kernel
theorem dX3_addArea_21 : decode cX3_addArea 21 = .ok (.getfield 24, 3) := by decide +kernel
theorem dX3_addArea_24 : decode cX3_addArea 24 = .ok (.aload_n 0, 1) := by decide +kernel
theorem dX3_addArea_25 : decode cX3_addArea 25 = .ok (.getfield 31, 3) := by decide +kernel
theorem dX3_addArea_28 : decode cX3_addArea 28 = .ok (.iload_n 3, 1) := by decide +kernel
theorem dX3_addArea_29 : decode cX3_addArea 29 = .ok (.iastore, 1) := by decide +kernel
theorem dX3_addArea_30 : decode cX3_addArea 30 = .ok (.aload_n 0, 1) := by decide +kernel
theorem dX3_addArea_31 : decode cX3_addArea 31 = .ok (.dup, 1) := by decide +kernel
theorem dX3_addArea_32 : decode cX3_addArea 32 = .ok (.getfield 34, 3) := by decide +kernel
theorem dX3_addArea_35 : decode cX3_addArea 35 = .ok (.iload_n 3, 1) := by decide +kernel
theorem dX3_addArea_36 : decode cX3_addArea 36 = .ok (.iadd, 1) := by decide +kernel
theorem dX3_addArea_37 : decode cX3_addArea 37 = .ok (.putfield 34, 3) := by decide +kernel
theorem dX3_addArea_40 : decode cX3_addArea 40 = .ok (.aload_n 0, 1) := by decide +kernel
theorem dX3_addArea_41 : decode cX3_addArea 41 = .ok (.dup, 1) := by decide +kernel
theorem dX3_addArea_42 : decode cX3_addArea 42 = .ok (.getfield 31, 3) := by decide +kernel
theorem dX3_addArea_45 : decode cX3_addArea 45 = .ok (.dup_x1, 1) := by decide +kernel
theorem dX3_addArea_46 : decode cX3_addArea 46 = .ok (.iconst 1, 1) := by decide +kernel
theorem dX3_addArea_47 : decode cX3_addArea 47 = .ok (.iadd, 1) := by decide +kernel
theorem dX3_addArea_48 : decode cX3_addArea 48 = .ok (.putfield 31, 3) := by decide +kernel
theorem dX3_addArea_51 : decode cX3_addArea 51 = .ok (.ireturn, 1) := by decide +kernel
theorem dX3_areaOfDraw_0 : decode cX3_areaOfDraw 0 = .ok (.iload_n 1, 1) := by decide +kernel
theorem dX3_areaOfDraw_1 : decode cX3_areaOfDraw 1 = .ok (.aload_n 0, 1) := by decide +kernel
theorem dX3_areaOfDraw_2 : decode cX3_areaOfDraw 2 = .ok (.getfield 34, 3) := by decide +kernel
theorem dX3_areaOfDraw_5 : decode cX3_areaOfDraw 5 = .ok (.iconst 1, 1) := by decide +kernel
theorem dX3_areaOfDraw_6 : decode cX3_areaOfDraw 6 = .ok (.invokestatic 37, 3) := by decide +kernel
theorem dX3_areaOfDraw_9 : decode cX3_areaOfDraw 9 = .ok (.irem, 1) := by decide +kernel
theorem dX3_areaOfDraw_10 : decode cX3_areaOfDraw 10 = .ok (.istore_n 2, 1) := by decide +kernel
theorem dX3_areaOfDraw_11 : decode cX3_areaOfDraw 11 = .ok (.iconst 0, 1) := by decide +kernel
theorem dX3_areaOfDraw_12 : decode cX3_areaOfDraw 12 = .ok (.istore_n 3, 1) := by decide +kernel
theorem dX3_areaOfDraw_13 : decode cX3_areaOfDraw 13 = .ok (.iconst 0, 1) := by decide +kernel
theorem dX3_areaOfDraw_14 : decode cX3_areaOfDraw 14 = .ok (.istore 4, 2) := by decide +kernel
theorem dX3_areaOfDraw_16 : decode cX3_areaOfDraw 16 = .ok (.iload 4, 2) := by decide +kernel
theorem dX3_areaOfDraw_18 : decode cX3_areaOfDraw 18 = .ok (.aload_n 0, 1) := by decide +kernel
theorem dX3_areaOfDraw_19 : decode cX3_areaOfDraw 19 = .ok (.getfield 31, 3) := by decide +kernel
theorem dX3_areaOfDraw_22 : decode cX3_areaOfDraw 22 = .ok (.if_icmp .ge 26, 3) := by decide +kernel
theorem dX3_areaOfDraw_25 : decode cX3_areaOfDraw 25 = .ok (.iload_n 2, 1) := by decide +kernel
theorem dX3_areaOfDraw_26 : decode cX3_areaOfDraw 26 = .ok (.ifCond .lt 22, 3) := by decide +kernel
theorem dX3_areaOfDraw_29 : decode cX3_areaOfDraw 29 = .ok (.iload 4, 2) := by decide +kernel
theorem dX3_areaOfDraw_31 : decode cX3_areaOfDraw 31 = .ok (.istore_n 3, 1) := by decide +kernel
theorem dX3_areaOfDraw_32 : decode cX3_areaOfDraw 32 = .ok (.iload_n 2, 1) := by decide +kernel
theorem dX3_areaOfDraw_33 : decode cX3_areaOfDraw 33 = .ok (.aload_n 0, 1) := by decide +kernel
theorem dX3_areaOfDraw_34 : decode cX3_areaOfDraw 34 = .ok (.getfield 24, 3) := by decide +kernel
theorem dX3_areaOfDraw_37 : decode cX3_areaOfDraw 37 = .ok (.iload 4, 2) := by decide +kernel
theorem dX3_areaOfDraw_39 : decode cX3_areaOfDraw 39 = .ok (.iaload, 1) := by decide +kernel
theorem dX3_areaOfDraw_40 : decode cX3_areaOfDraw 40 = .ok (.isub, 1) := by decide +kernel
theorem dX3_areaOfDraw_41 : decode cX3_areaOfDraw 41 = .ok (.istore_n 2, 1) := by decide +kernel
theorem dX3_areaOfDraw_42 : decode cX3_areaOfDraw 42 = .ok (.iinc 4 1, 3) := by decide +kernel
theorem dX3_areaOfDraw_45 : decode cX3_areaOfDraw 45 = .ok (.goto (-29), 3) := by decide +kernel
theorem dX3_areaOfDraw_48 : decode cX3_areaOfDraw 48 = .ok (.iload_n 3, 1) := by decide +kernel
theorem dX3_areaOfDraw_49 : decode cX3_areaOfDraw 49 = .ok (.ireturn, 1) := by decide +kernel
theorem dX3_wayMinutes_0 : decode cX3_wayMinutes 0 = .ok (.aload_n 0, 1) := by decide +kernel
theorem dX3_wayMinutes_1 : decode cX3_wayMinutes 1 = .ok (.getfield 9, 3) := by decide +kernel
theorem dX3_wayMinutes_4 : decode cX3_wayMinutes 4 = .ok (.iload_n 1, 1) := by decide +kernel
theorem dX3_wayMinutes_5 : decode cX3_wayMinutes 5 = .ok (.iaload, 1) := by decide +kernel
theorem dX3_wayMinutes_6 : decode cX3_wayMinutes 6 = .ok (.aload_n 0, 1) := by decide +kernel
theorem dX3_wayMinutes_7 : decode cX3_wayMinutes 7 = .ok (.getfield 18, 3) := by decide +kernel
theorem dX3_wayMinutes_10 : decode cX3_wayMinutes 10 = .ok (.iload_n 2, 1) := by decide +kernel
theorem dX3_wayMinutes_11 : decode cX3_wayMinutes 11 = .ok (.iaload, 1) := by decide +kernel
theorem dX3_wayMinutes_12 : decode cX3_wayMinutes 12 = .ok (.isub, 1) := by decide +kernel
theorem dX3_wayMinutes_13 : decode cX3_wayMinutes 13 = .ok (.invokestatic 43, 3) := by decide +kernel
theorem dX3_wayMinutes_16 : decode cX3_wayMinutes 16 = .ok (.aload_n 0, 1) := by decide +kernel
theorem dX3_wayMinutes_17 : decode cX3_wayMinutes 17 = .ok (.getfield 15, 3) := by decide +kernel
theorem dX3_wayMinutes_20 : decode cX3_wayMinutes 20 = .ok (.iload_n 1, 1) := by decide +kernel
theorem dX3_wayMinutes_21 : decode cX3_wayMinutes 21 = .ok (.iaload, 1) := by decide +kernel
theorem dX3_wayMinutes_22 : decode cX3_wayMinutes 22 = .ok (.aload_n 0, 1) := by decide +kernel
theorem dX3_wayMinutes_23 : decode cX3_wayMinutes 23 = .ok (.getfield 21, 3) := by decide +kernel
theorem dX3_wayMinutes_26 : decode cX3_wayMinutes 26 = .ok (.iload_n 2, 1) := by decide +kernel
theorem dX3_wayMinutes_27 : decode cX3_wayMinutes 27 = .ok (.iaload, 1) := by decide +kernel
theorem dX3_wayMinutes_28 : decode cX3_wayMinutes 28 = .ok (.isub, 1) := by decide +kernel
theorem dX3_wayMinutes_29 : decode cX3_wayMinutes 29 = .ok (.invokestatic 43, 3) := by decide +kernel
theorem dX3_wayMinutes_32 : decode cX3_wayMinutes 32 = .ok (.iadd, 1) := by decide +kernel
theorem dX3_wayMinutes_33 : decode cX3_wayMinutes 33 = .ok (.istore 4, 2) := by decide +kernel
theorem dX3_wayMinutes_35 : decode cX3_wayMinutes 35 = .ok (.iload 4, 2) := by decide +kernel
theorem dX3_wayMinutes_37 : decode cX3_wayMinutes 37 = .ok (.iload_n 3, 1) := by decide +kernel
theorem dX3_wayMinutes_38 : decode cX3_wayMinutes 38 = .ok (.imul, 1) := by decide +kernel
theorem dX3_wayMinutes_39 : decode cX3_wayMinutes 39 = .ok (.iconst 3, 1) := by decide +kernel
theorem dX3_wayMinutes_40 : decode cX3_wayMinutes 40 = .ok (.iadd, 1) := by decide +kernel
theorem dX3_wayMinutes_41 : decode cX3_wayMinutes 41 = .ok (.iconst 4, 1) := by decide +kernel
theorem dX3_wayMinutes_42 : decode cX3_wayMinutes 42 = .ok (.idiv, 1) := by decide +kernel
theorem dX3_wayMinutes_43 : decode cX3_wayMinutes 43 = .ok (.ireturn, 1) := by decide +kernel
set_option maxRecDepth 20000 in
theorem ggX4_init_X3_init : GoodIn wsX4_init wsX3_init := goodIn_r _ [19, 20, 2, 3, 21, 22, 23, 24, 25, 26, 27, 28, 29, 63, 64, 65, 66, 67, 68, 69, 70] (by decide +kernel) (by decide +kernel)
set_option maxRecDepth 20000 in
theorem gX4_init_X3_init_n13 : GoodIn wsX4_init (wsX3_init) := ggX4_init_X3_init
set_option maxRecDepth 20000 in
theorem ggX4_init_X1_init : GoodIn wsX4_init wsX1_init := goodIn_r _ [31, 32, 2, 3, 33, 21, 34, 35, 76, 77] (by decide +kernel) (by decide +kernel)
set_option maxRecDepth 20000 in
theorem gX4_init_X1_init_n20 : GoodIn wsX4_init (wsX1_init) := ggX4_init_X1_init
set_option maxRecDepth 20000 in
theorem ggX4_init_X2_init : GoodIn wsX4_init wsX2_init := goodIn_r _ [37, 38, 2, 3, 39, 40, 41, 42, 21, 43, 44, 45, 46, 47, 48, 49, 50, 51, 52, 53, 54, 55, 56, 57, 58, 59, 60, 61, 62, 89, 90, 91, 92, 93, 78, 79, 80, 81, 82, 83, 84, 85, 86, 87, 88] (by decide +kernel) (by decide +kernel)
set_option maxRecDepth 20000 in
theorem gX4_init_X2_init_n27 : GoodIn wsX4_init (wsX2_init) := ggX4_init_X2_init
theorem dX4_init_0 : decode cX4_init 0 = .ok (.aload_n 0, 1) := by decide +kernel
theorem dX4_init_1 : decode cX4_init 1 = .ok (.invokespecial 5, 3) := by decide +kernel
theorem dX4_init_4 : decode cX4_init 4 = .ok (.aload_n 0, 1) := by decide +kernel
theorem dX4_init_5 : decode cX4_init 5 = .ok (.new 11, 3) := by decide +kernel
theorem dX4_init_8 : decode cX4_init 8 = .ok (.dup, 1) := by decide +kernel
theorem dX4_init_9 : decode cX4_init 9 = .ok (.invokespecial 13, 3) := by decide +kernel
theorem dX4_init_12 : decode cX4_init 12 = .ok (.putfield 14, 3) := by decide +kernel
theorem dX4_init_15 : decode cX4_init 15 = .ok (.aload_n 0, 1) := by decide +kernel
theorem dX4_init_16 : decode cX4_init 16 = .ok (.new 18, 3) := by decide +kernel
theorem dX4_init_19 : decode cX4_init 19 = .ok (.dup, 1) := by decide +kernel
theorem dX4_init_20 : decode cX4_init 20 = .ok (.invokespecial 20, 3) := by decide +kernel
theorem dX4_init_23 : decode cX4_init 23 = .ok (.putfield 21, 3) := by decide +kernel
theorem dX4_init_26 : decode cX4_init 26 = .ok (.aload_n 0, 1) := by decide +kernel
theorem dX4_init_27 : decode cX4_init 27 = .ok (.new 25, 3) := by decide +kernel
theorem dX4_init_30 : decode cX4_init 30 = .ok (.dup, 1) := by decide +kernel
theorem dX4_init_31 : decode cX4_init 31 = .ok (.invokespecial 27, 3) := by decide +kernel
theorem dX4_init_34 : decode cX4_init 34 = .ok (.putfield 28, 3) := by decide +kernel
theorem dX4_init_37 : decode cX4_init 37 = .ok (.aload_n 0, 1) := by decide +kernel
theorem dX4_init_38 : decode cX4_init 38 = .ok (.iconst 1, 1) := by decide +kernel
theorem dX4_init_39 : decode cX4_init 39 = .ok (.putfield 32, 3) := by decide +kernel
theorem dX4_init_42 : decode cX4_init 42 = .ok (.aload_n 0, 1) := by decide +kernel
theorem dX4_init_43 : decode cX4_init 43 = .ok (.bipush 10, 2) := by decide +kernel
theorem dX4_init_45 : decode cX4_init 45 = .ok (.putfield 36, 3) := by decide +kernel
theorem dX4_init_48 : decode cX4_init 48 = .ok (.return_, 1) := by decide +kernel
set_option maxRecDepth 20000 in
theorem ggX4_station_X4_isPlace : GoodIn wsX4_station wsX4_isPlace := goodIn_r _ [6, 7, 8, 5, 9] (by decide +kernel) (by decide +kernel)
set_option maxRecDepth 20000 in
theorem gX4_station_X4_isPlace : GoodIn wsX4_station (va_wsS RX4 39 yX4_isPlace wsX4_isPlace) := goodIn_app (goodIn_of _ (by decide +kernel)) ggX4_station_X4_isPlace
set_option maxRecDepth 20000 in
theorem ggX4_station_X4_needRange : GoodIn wsX4_station wsX4_needRange := goodIn_ca (goodIn_r _ [12, 13, 14] (by decide +kernel) (by decide +kernel)) (goodIn_sub (fun _ h => List.mem_cons_of_mem _ (List.mem_append_left _ (List.mem_append_right _ h))) (by decide +kernel))
set_option maxRecDepth 20000 in
theorem gX4_station_X4_needRange : GoodIn wsX4_station (va_wsS RX4 43 yX4_needRange wsX4_needRange) := goodIn_app (goodIn_of _ (by decide +kernel)) ggX4_station_X4_needRange
set_option maxRecDepth 20000 in
theorem ggX4_station_X4_needRoom : GoodIn wsX4_station wsX4_needRoom := goodIn_ca (goodIn_r _ [17, 18, 19] (by decide +kernel) (by decide +kernel)) (goodIn_sub (fun _ h => List.mem_cons_of_mem _ (List.mem_append_right _ h)) (by decide +kernel))
set_option maxRecDepth 20000 in
theorem gX4_station_X4_needRoom : GoodIn wsX4_station (va_wsS RX4 50 yX4_needRoom wsX4_needRoom) := goodIn_app (goodIn_of _ (by decide +kernel)) ggX4_station_X4_needRoom
set_option maxRecDepth 20000 in
theorem ggX4_station_X3_addStation : GoodIn wsX4_station wsX3_addStation := goodIn_r _ [24, 25, 26, 27, 33, 34, 35, 36, 37, 38, 39, 40] (by decide +kernel) (by decide +kernel)
set_option maxRecDepth 20000 in
theorem gX4_station_X3_addStation : GoodIn wsX4_station (wsV RX4 53 RX3 yX3_addStation wsX3_addStation) := goodIn_app (goodIn_of _ (by decide +kernel)) ggX4_station_X3_addStation
theorem dX4_station_0 : decode cX4_station 0 = .ok (.iload_n 1, 1) := by decide +kernel
theorem dX4_station_1 : decode cX4_station 1 = .ok (.iload_n 2, 1) := by decide +kernel
theorem dX4_station_2 : decode cX4_station 2 = .ok (.invokestatic 39, 3) := by decide +kernel
theorem dX4_station_5 : decode cX4_station 5 = .ok (.invokestatic 43, 3) := by decide +kernel
theorem dX4_station_8 : decode cX4_station 8 = .ok (.aload_n 0, 1) := by decide +kernel
theorem dX4_station_9 : decode cX4_station 9 = .ok (.getfield 14, 3) := by decide +kernel
theorem dX4_station_12 : decode cX4_station 12 = .ok (.getfield 47, 3) := by decide +kernel
theorem dX4_station_15 : decode cX4_station 15 = .ok (.bipush 6, 2) := by decide +kernel
theorem dX4_station_17 : decode cX4_station 17 = .ok (.if_icmp .ge 7, 3) := by decide +kernel
theorem dX4_station_20 : decode cX4_station 20 = .ok (.iconst 1, 1) := by decide +kernel
theorem dX4_station_21 : decode cX4_station 21 = .ok (.goto 4, 3) := by decide +kernel
theorem dX4_station_24 : decode cX4_station 24 = .ok (.iconst 0, 1) := by decide +kernel
theorem dX4_station_25 : decode cX4_station 25 = .ok (.invokestatic 50, 3) := by decide +kernel
theorem dX4_station_28 : decode cX4_station 28 = .ok (.aload_n 0, 1) := by decide +kernel
theorem dX4_station_29 : decode cX4_station 29 = .ok (.getfield 14, 3) := by decide +kernel
theorem dX4_station_32 : decode cX4_station 32 = .ok (.iload_n 1, 1) := by decide +kernel
theorem dX4_station_33 : decode cX4_station 33 = .ok (.iload_n 2, 1) := by decide +kernel
theorem dX4_station_34 : decode cX4_station 34 = .ok (.invokevirtual 53, 3) := by decide +kernel
theorem dX4_station_37 : decode cX4_station 37 = .ok (.ireturn, 1) := by decide +kernel
set_option maxRecDepth 20000 in
theorem ggX4_area_X4_isPlace : GoodIn wsX4_area wsX4_isPlace := goodIn_r _ [6, 7, 8, 5, 9] (by decide +kernel) (by decide +kernel)
set_option maxRecDepth 20000 in
theorem gX4_area_X4_isPlace : GoodIn wsX4_area (va_wsS RX4 39 yX4_isPlace wsX4_isPlace) := goodIn_app (goodIn_of _ (by decide +kernel)) ggX4_area_X4_isPlace
set_option maxRecDepth 20000 in
theorem ggX4_area_X4_isWithin : GoodIn wsX4_area wsX4_isWithin := goodIn_r _ [12] (by decide +kernel) (by decide +kernel)
set_option maxRecDepth 20000 in
theorem gX4_area_X4_isWithin : GoodIn wsX4_area (va_wsS RX4 57 yX4_isWithin wsX4_isWithin) := goodIn_app (goodIn_of _ (by decide +kernel)) ggX4_area_X4_isWithin
set_option maxRecDepth 20000 in
theorem ggX4_area_X4_needRange : GoodIn wsX4_area wsX4_needRange := goodIn_ca (goodIn_r _ [15, 16, 17] (by decide +kernel) (by decide +kernel)) (goodIn_sub (fun _ h => List.mem_cons_of_mem _ (List.mem_append_left _ (List.mem_append_right _ h))) (by decide +kernel))
set_option maxRecDepth 20000 in
theorem gX4_area_X4_needRange : GoodIn wsX4_area (va_wsS RX4 43 yX4_needRange wsX4_needRange) := goodIn_app (goodIn_of _ (by decide +kernel)) ggX4_area_X4_needRange
set_option maxRecDepth 20000 in
theorem ggX4_area_X4_needRoom : GoodIn wsX4_area wsX4_needRoom := goodIn_ca (goodIn_r _ [20, 21, 22] (by decide +kernel) (by decide +kernel)) (goodIn_sub (fun _ h => List.mem_cons_of_mem _ (List.mem_append_right _ h)) (by decide +kernel))
set_option maxRecDepth 20000 in
theorem gX4_area_X4_needRoom : GoodIn wsX4_area (va_wsS RX4 50 yX4_needRoom wsX4_needRoom) := goodIn_app (goodIn_of _ (by decide +kernel)) ggX4_area_X4_needRoom
set_option maxRecDepth 20000 in
theorem ggX4_area_X3_addArea : GoodIn wsX4_area wsX3_addArea := goodIn_r _ [27, 28, 29, 30, 31, 32, 38, 39, 40, 41, 42, 43, 44, 45] (by decide +kernel) (by decide +kernel)
set_option maxRecDepth 20000 in
theorem gX4_area_X3_addArea : GoodIn wsX4_area (wsV RX4 64 RX3 yX3_addArea wsX3_addArea) := goodIn_app (goodIn_of _ (by decide +kernel)) ggX4_area_X3_addArea
theorem dX4_area_0 : decode cX4_area 0 = .ok (.iload_n 1, 1) := by decide +kernel
theorem dX4_area_1 : decode cX4_area 1 = .ok (.iload_n 2, 1) := by decide +kernel
theorem dX4_area_2 : decode cX4_area 2 = .ok (.invokestatic 39, 3) := by decide +kernel
theorem dX4_area_5 : decode cX4_area 5 = .ok (.ifCond .eq 17, 3) := by decide +kernel
theorem dX4_area_8 : decode cX4_area 8 = .ok (.iload_n 3, 1) := by decide +kernel
theorem dX4_area_9 : decode cX4_area 9 = .ok (.iconst 1, 1) := by decide +kernel
theorem dX4_area_10 : decode cX4_area 10 = .ok (.bipush 50, 2) := by decide +kernel
theorem dX4_area_12 : decode cX4_area 12 = .ok (.invokestatic 57, 3) := by decide +kernel
theorem dX4_area_15 : decode cX4_area 15 = .ok (.ifCond .eq 7, 3) := by decide +kernel
theorem dX4_area_18 : decode cX4_area 18 = .ok (.iconst 1, 1) := by decide +kernel
theorem dX4_area_19 : decode cX4_area 19 = .ok (.goto 4, 3) := by decide +kernel
theorem dX4_area_22 : decode cX4_area 22 = .ok (.iconst 0, 1) := by decide +kernel
theorem dX4_area_23 : decode cX4_area 23 = .ok (.invokestatic 43, 3) := by decide +kernel
theorem dX4_area_26 : decode cX4_area 26 = .ok (.aload_n 0, 1) := by decide +kernel
theorem dX4_area_27 : decode cX4_area 27 = .ok (.getfield 14, 3) := by decide +kernel
theorem dX4_area_30 : decode cX4_area 30 = .ok (.getfield 61, 3) := by decide +kernel
theorem dX4_area_33 : decode cX4_area 33 = .ok (.bipush 10, 2) := by decide +kernel
theorem dX4_area_35 : decode cX4_area 35 = .ok (.if_icmp .ge 7, 3) := by decide +kernel
theorem dX4_area_38 : decode cX4_area 38 = .ok (.iconst 1, 1) := by decide +kernel
theorem dX4_area_39 : decode cX4_area 39 = .ok (.goto 4, 3) := by decide +kernel
theorem dX4_area_42 : decode cX4_area 42 = .ok (.iconst 0, 1) := by decide +kernel
theorem dX4_area_43 : decode cX4_area 43 = .ok (.invokestatic 50, 3) := by decide +kernel
theorem dX4_area_46 : decode cX4_area 46 = .ok (.aload_n 0, 1) := by decide +kernel
theorem dX4_area_47 : decode cX4_area 47 = .ok (.getfield 14, 3) := by decide +kernel
theorem dX4_area_50 : decode cX4_area 50 = .ok (.iload_n 1, 1) := by decide +kernel
theorem dX4_area_51 : decode cX4_area 51 = .ok (.iload_n 2, 1) := by decide +kernel
theorem dX4_area_52 : decode cX4_area 52 = .ok (.iload_n 3, 1) := by decide +kernel
theorem dX4_area_53 : decode cX4_area 53 = .ok (.invokevirtual 64, 3) := by decide +kernel
theorem dX4_area_56 : decode cX4_area 56 = .ok (.ireturn, 1) := by decide +kernel
set_option maxRecDepth 20000 in
theorem ggX4_unit_X4_isBelow : GoodIn wsX4_unit wsX4_isBelow := goodIn_r _ [8] (by decide +kernel) (by decide +kernel)
set_option maxRecDepth 20000 in
theorem gX4_unit_X4_isBelow : GoodIn wsX4_unit (va_wsS RX4 68 yX4_isBelow wsX4_isBelow) := goodIn_app (goodIn_of _ (by decide +kernel)) ggX4_unit_X4_isBelow
set_option maxRecDepth 20000 in
theorem ggX4_unit_X4_needKnown : GoodIn wsX4_unit wsX4_needKnown := goodIn_ca (goodIn_r _ [11, 12, 13] (by decide +kernel) (by decide +kernel)) (goodIn_sub (fun _ h => List.mem_cons_of_mem _ (List.mem_append_left _ (List.mem_append_left _ (List.mem_append_right _ h)))) (by decide +kernel))
set_option maxRecDepth 20000 in
theorem gX4_unit_X4_needKnown : GoodIn wsX4_unit (va_wsS RX4 71 yX4_needKnown wsX4_needKnown) := goodIn_app (goodIn_of _ (by decide +kernel)) ggX4_unit_X4_needKnown
set_option maxRecDepth 20000 in
theorem ggX4_unit_X1_hasRoomInAllVariants : GoodIn wsX4_unit wsX1_hasRoomInAllVariants := goodIn_r _ [18, 19, 20, 21, 17, 22, 23, 24, 52, 53] (by decide +kernel) (by decide +kernel)
set_option maxRecDepth 20000 in
theorem gX4_unit_X1_hasRoomInAllVariants : GoodIn wsX4_unit (wsV RX4 74 RX1 yX1_hasRoomInAllVariants wsX1_hasRoomInAllVariants) := goodIn_app (goodIn_of _ (by decide +kernel)) ggX4_unit_X1_hasRoomInAllVariants
set_option maxRecDepth 20000 in
theorem ggX4_unit_X4_needState : GoodIn wsX4_unit wsX4_needState := goodIn_ca (goodIn_r _ [27, 28, 29] (by decide +kernel) (by decide +kernel)) (goodIn_sub (fun _ h => List.mem_cons_of_mem _ (List.mem_append_left _ (List.mem_append_right _ h))) (by decide +kernel))
set_option maxRecDepth 20000 in
theorem gX4_unit_X4_needState : GoodIn wsX4_unit (va_wsS RX4 78 yX4_needState wsX4_needState) := goodIn_app (goodIn_of _ (by decide +kernel)) ggX4_unit_X4_needState
set_option maxRecDepth 20000 in
theorem ggX4_unit_X4_needRoom : GoodIn wsX4_unit wsX4_needRoom := goodIn_ca (goodIn_r _ [32, 33, 34] (by decide +kernel) (by decide +kernel)) (goodIn_sub (fun _ h => List.mem_cons_of_mem _ (List.mem_append_right _ h)) (by decide +kernel))
set_option maxRecDepth 20000 in
theorem gX4_unit_X4_needRoom : GoodIn wsX4_unit (va_wsS RX4 50 yX4_needRoom wsX4_needRoom) := goodIn_app (goodIn_of _ (by decide +kernel)) ggX4_unit_X4_needRoom
set_option maxRecDepth 20000 in
theorem ggX4_unit_X1_addUnit : GoodIn wsX4_unit wsX1_addUnit := goodIn_r _ [38, 24, 23, 52, 53] (by decide +kernel) (by decide +kernel)
set_option maxRecDepth 20000 in
theorem gX4_unit_X1_addUnit : GoodIn wsX4_unit (wsV RX4 84 RX1 yX1_addUnit wsX1_addUnit) := goodIn_app (goodIn_of _ (by decide +kernel)) ggX4_unit_X1_addUnit
theorem dX4_unit_0 : decode cX4_unit 0 = .ok (.iload_n 1, 1) := by decide +kernel
theorem dX4_unit_1 : decode cX4_unit 1 = .ok (.aload_n 0, 1) := by decide +kernel
theorem dX4_unit_2 : decode cX4_unit 2 = .ok (.getfield 14, 3) := by decide +kernel
theorem dX4_unit_5 : decode cX4_unit 5 = .ok (.getfield 47, 3) := by decide +kernel
theorem dX4_unit_8 : decode cX4_unit 8 = .ok (.invokestatic 68, 3) := by decide +kernel
theorem dX4_unit_11 : decode cX4_unit 11 = .ok (.invokestatic 71, 3) := by decide +kernel
theorem dX4_unit_14 : decode cX4_unit 14 = .ok (.aload_n 0, 1) := by decide +kernel
theorem dX4_unit_15 : decode cX4_unit 15 = .ok (.getfield 21, 3) := by decide +kernel
theorem dX4_unit_18 : decode cX4_unit 18 = .ok (.iload_n 1, 1) := by decide +kernel
theorem dX4_unit_19 : decode cX4_unit 19 = .ok (.invokevirtual 74, 3) := by decide +kernel
theorem dX4_unit_22 : decode cX4_unit 22 = .ok (.invokestatic 78, 3) := by decide +kernel
theorem dX4_unit_25 : decode cX4_unit 25 = .ok (.aload_n 0, 1) := by decide +kernel
theorem dX4_unit_26 : decode cX4_unit 26 = .ok (.getfield 21, 3) := by decide +kernel
theorem dX4_unit_29 : decode cX4_unit 29 = .ok (.getfield 81, 3) := by decide +kernel
theorem dX4_unit_32 : decode cX4_unit 32 = .ok (.bipush 12, 2) := by decide +kernel
theorem dX4_unit_34 : decode cX4_unit 34 = .ok (.if_icmp .ge 7, 3) := by decide +kernel
theorem dX4_unit_37 : decode cX4_unit 37 = .ok (.iconst 1, 1) := by decide +kernel
theorem dX4_unit_38 : decode cX4_unit 38 = .ok (.goto 4, 3) := by decide +kernel
theorem dX4_unit_41 : decode cX4_unit 41 = .ok (.iconst 0, 1) := by decide +kernel
theorem dX4_unit_42 : decode cX4_unit 42 = .ok (.invokestatic 50, 3) := by decide +kernel
theorem dX4_unit_45 : decode cX4_unit 45 = .ok (.aload_n 0, 1) := by decide +kernel
theorem dX4_unit_46 : decode cX4_unit 46 = .ok (.getfield 21, 3) := by decide +kernel
theorem dX4_unit_49 : decode cX4_unit 49 = .ok (.iload_n 1, 1) := by decide +kernel
theorem dX4_unit_50 : decode cX4_unit 50 = .ok (.invokevirtual 84, 3) := by decide +kernel
theorem dX4_unit_53 : decode cX4_unit 53 = .ok (.ireturn, 1) := by decide +kernel
set_option maxRecDepth 20000 in
theorem ggX4_change_X4_isWithin : GoodIn wsX4_change wsX4_isWithin := goodIn_r _ [9] (by decide +kernel) (by decide +kernel)
set_option maxRecDepth 20000 in
theorem gX4_change_X4_isWithin : GoodIn wsX4_change (va_wsS RX4 57 yX4_isWithin wsX4_isWithin) := goodIn_app (goodIn_of _ (by decide +kernel)) ggX4_change_X4_isWithin
set_option maxRecDepth 20000 in
theorem ggX4_change_X4_isBelow : GoodIn wsX4_change wsX4_isBelow := goodIn_r _ [12] (by decide +kernel) (by decide +kernel)
set_option maxRecDepth 20000 in
theorem gX4_change_X4_isBelow : GoodIn wsX4_change (va_wsS RX4 68 yX4_isBelow wsX4_isBelow) := goodIn_app (goodIn_of _ (by decide +kernel)) ggX4_change_X4_isBelow
set_option maxRecDepth 20000 in
theorem ggX4_change_X4_needKnown : GoodIn wsX4_change wsX4_needKnown := goodIn_ca (goodIn_r _ [15, 16, 17] (by decide +kernel) (by decide +kernel)) (goodIn_sub (fun _ h => List.mem_cons_of_mem _ (List.mem_append_left _ (List.mem_append_right _ h))) (by decide +kernel))
set_option maxRecDepth 20000 in
theorem gX4_change_X4_needKnown : GoodIn wsX4_change (va_wsS RX4 71 yX4_needKnown wsX4_needKnown) := goodIn_app (goodIn_of _ (by decide +kernel)) ggX4_change_X4_needKnown
set_option maxRecDepth 20000 in
theorem ggX4_change_X1_countOthers : GoodIn wsX4_change wsX1_countOthers := goodIn_r _ [22, 23, 24, 35, 36] (by decide +kernel) (by decide +kernel)
set_option maxRecDepth 20000 in
theorem gX4_change_X1_countOthers : GoodIn wsX4_change (wsV RX4 88 RX1 yX1_countOthers wsX1_countOthers) := goodIn_app (goodIn_of _ (by decide +kernel)) ggX4_change_X1_countOthers
set_option maxRecDepth 20000 in
theorem ggX4_change_X4_needState : GoodIn wsX4_change wsX4_needState := goodIn_ca (goodIn_r _ [27, 28, 29] (by decide +kernel) (by decide +kernel)) (goodIn_sub (fun _ h => List.mem_cons_of_mem _ (List.mem_append_right _ h)) (by decide +kernel))
set_option maxRecDepth 20000 in
theorem gX4_change_X4_needState : GoodIn wsX4_change (va_wsS RX4 78 yX4_needState wsX4_needState) := goodIn_app (goodIn_of _ (by decide +kernel)) ggX4_change_X4_needState
theorem dX4_change_0 : decode cX4_change 0 = .ok (.iload_n 1, 1) := by decide +kernel
theorem dX4_change_1 : decode cX4_change 1 = .ok (.iconst 1, 1) := by decide +kernel
theorem dX4_change_2 : decode cX4_change 2 = .ok (.iconst 3, 1) := by decide +kernel
theorem dX4_change_3 : decode cX4_change 3 = .ok (.invokestatic 57, 3) := by decide +kernel
theorem dX4_change_6 : decode cX4_change 6 = .ok (.ifCond .eq 21, 3) := by decide +kernel
theorem dX4_change_9 : decode cX4_change 9 = .ok (.iload_n 2, 1) := by decide +kernel
theorem dX4_change_10 : decode cX4_change 10 = .ok (.aload_n 0, 1) := by decide +kernel
theorem dX4_change_11 : decode cX4_change 11 = .ok (.getfield 21, 3) := by decide +kernel
theorem dX4_change_14 : decode cX4_change 14 = .ok (.getfield 81, 3) := by decide +kernel
theorem dX4_change_17 : decode cX4_change 17 = .ok (.invokestatic 68, 3) := by decide +kernel
theorem dX4_change_20 : decode cX4_change 20 = .ok (.ifCond .eq 7, 3) := by decide +kernel
theorem dX4_change_23 : decode cX4_change 23 = .ok (.iconst 1, 1) := by decide +kernel
theorem dX4_change_24 : decode cX4_change 24 = .ok (.goto 4, 3) := by decide +kernel
theorem dX4_change_27 : decode cX4_change 27 = .ok (.iconst 0, 1) := by decide +kernel
theorem dX4_change_28 : decode cX4_change 28 = .ok (.invokestatic 71, 3) := by decide +kernel
theorem dX4_change_31 : decode cX4_change 31 = .ok (.iload_n 3, 1) := by decide +kernel
theorem dX4_change_32 : decode cX4_change 32 = .ok (.iconst (-1), 1) := by decide +kernel
theorem dX4_change_33 : decode cX4_change 33 = .ok (.if_icmp .eq 17, 3) := by decide +kernel
theorem dX4_change_36 : decode cX4_change 36 = .ok (.iload_n 3, 1) := by decide +kernel
theorem dX4_change_37 : decode cX4_change 37 = .ok (.aload_n 0, 1) := by decide +kernel
theorem dX4_change_38 : decode cX4_change 38 = .ok (.getfield 14, 3) := by decide +kernel
theorem dX4_change_41 : decode cX4_change 41 = .ok (.getfield 47, 3) := by decide +kernel
theorem dX4_change_44 : decode cX4_change 44 = .ok (.invokestatic 68, 3) := by decide +kernel
theorem dX4_change_47 : decode cX4_change 47 = .ok (.ifCond .eq 7, 3) := by decide +kernel
theorem dX4_change_50 : decode cX4_change 50 = .ok (.iconst 1, 1) := by decide +kernel
theorem dX4_change_51 : decode cX4_change 51 = .ok (.goto 4, 3) := by decide +kernel
theorem dX4_change_54 : decode cX4_change 54 = .ok (.iconst 0, 1) := by decide +kernel
theorem dX4_change_55 : decode cX4_change 55 = .ok (.invokestatic 71, 3) := by decide +kernel
theorem dX4_change_58 : decode cX4_change 58 = .ok (.iload_n 3, 1) := by decide +kernel
theorem dX4_change_59 : decode cX4_change 59 = .ok (.iconst (-1), 1) := by decide +kernel
theorem dX4_change_60 : decode cX4_change 60 = .ok (.if_icmp .eq 17, 3) := by decide +kernel
theorem dX4_change_63 : decode cX4_change 63 = .ok (.aload_n 0, 1) := by decide +kernel
theorem dX4_change_64 : decode cX4_change 64 = .ok (.getfield 21, 3) := by decide +kernel
theorem dX4_change_67 : decode cX4_change 67 = .ok (.iload_n 1, 1) := by decide +kernel
theorem dX4_change_68 : decode cX4_change 68 = .ok (.iload_n 3, 1) := by decide +kernel
theorem dX4_change_69 : decode cX4_change 69 = .ok (.iload_n 2, 1) := by decide +kernel
theorem dX4_change_70 : decode cX4_change 70 = .ok (.invokevirtual 88, 3) := by decide +kernel
theorem dX4_change_73 : decode cX4_change 73 = .ok (.iconst 4, 1) := by decide +kernel
theorem dX4_change_74 : decode cX4_change 74 = .ok (.if_icmp .ge 7, 3) := by decide +kernel
theorem dX4_change_77 : decode cX4_change 77 = .ok (.iconst 1, 1) := by decide +kernel
theorem dX4_change_78 : decode cX4_change 78 = .ok (.goto 4, 3) := by decide +kernel
theorem dX4_change_81 : decode cX4_change 81 = .ok (.iconst 0, 1) := by decide +kernel
theorem dX4_change_82 : decode cX4_change 82 = .ok (.invokestatic 78, 3) := by decide +kernel
theorem dX4_change_85 : decode cX4_change 85 = .ok (.aload_n 0, 1) := by decide +kernel
theorem dX4_change_86 : decode cX4_change 86 = .ok (.getfield 21, 3) := by decide +kernel
theorem dX4_change_89 : decode cX4_change 89 = .ok (.getfield 91, 3) := by decide +kernel
theorem dX4_change_92 : decode cX4_change 92 = .ok (.iload_n 1, 1) := by decide +kernel
theorem dX4_change_93 : decode cX4_change 93 = .ok (.aaload, 1) := by decide +kernel
theorem dX4_change_94 : decode cX4_change 94 = .ok (.iload_n 2, 1) := by decide +kernel
theorem dX4_change_95 : decode cX4_change 95 = .ok (.iload_n 3, 1) := by decide +kernel
theorem dX4_change_96 : decode cX4_change 96 = .ok (.iastore, 1) := by decide +kernel
theorem dX4_change_97 : decode cX4_change 97 = .ok (.return_, 1) := by decide +kernel
set_option maxRecDepth 20000 in
theorem ggX4_rules_X4_isWithin : GoodIn wsX4_rules wsX4_isWithin := goodIn_r _ [6] (by decide +kernel) (by decide +kernel)
set_option maxRecDepth 20000 in
theorem gX4_rules_X4_isWithin : GoodIn wsX4_rules (va_wsS RX4 57 yX4_isWithin wsX4_isWithin) := goodIn_app (goodIn_of _ (by decide +kernel)) ggX4_rules_X4_isWithin
set_option maxRecDepth 20000 in
theorem ggX4_rules_X4_needRange : GoodIn wsX4_rules wsX4_needRange := goodIn_ca (goodIn_r _ [9, 10, 11] (by decide +kernel) (by decide +kernel)) (goodIn_sub (fun _ h => List.mem_cons_of_mem _ (List.mem_append_right _ h)) (by decide +kernel))
set_option maxRecDepth 20000 in
theorem gX4_rules_X4_needRange : GoodIn wsX4_rules (va_wsS RX4 43 yX4_needRange wsX4_needRange) := goodIn_app (goodIn_of _ (by decide +kernel)) ggX4_rules_X4_needRange
theorem dX4_rules_0 : decode cX4_rules 0 = .ok (.iload_n 1, 1) := by decide +kernel
theorem dX4_rules_1 : decode cX4_rules 1 = .ok (.iconst 1, 1) := by decide +kernel
theorem dX4_rules_2 : decode cX4_rules 2 = .ok (.bipush 9, 2) := by decide +kernel
theorem dX4_rules_4 : decode cX4_rules 4 = .ok (.invokestatic 57, 3) := by decide +kernel
theorem dX4_rules_7 : decode cX4_rules 7 = .ok (.ifCond .eq 18, 3) := by decide +kernel
theorem dX4_rules_10 : decode cX4_rules 10 = .ok (.iload_n 2, 1) := by decide +kernel
theorem dX4_rules_11 : decode cX4_rules 11 = .ok (.iconst 0, 1) := by decide +kernel
theorem dX4_rules_12 : decode cX4_rules 12 = .ok (.sipush 1000, 3) := by decide +kernel
theorem dX4_rules_15 : decode cX4_rules 15 = .ok (.invokestatic 57, 3) := by decide +kernel
theorem dX4_rules_18 : decode cX4_rules 18 = .ok (.ifCond .eq 7, 3) := by decide +kernel
theorem dX4_rules_21 : decode cX4_rules 21 = .ok (.iconst 1, 1) := by decide +kernel
theorem dX4_rules_22 : decode cX4_rules 22 = .ok (.goto 4, 3) := by decide +kernel
theorem dX4_rules_25 : decode cX4_rules 25 = .ok (.iconst 0, 1) := by decide +kernel
theorem dX4_rules_26 : decode cX4_rules 26 = .ok (.invokestatic 43, 3) := by decide +kernel
theorem dX4_rules_29 : decode cX4_rules 29 = .ok (.aload_n 0, 1) := by decide +kernel
theorem dX4_rules_30 : decode cX4_rules 30 = .ok (.iload_n 1, 1) := by decide +kernel
theorem dX4_rules_31 : decode cX4_rules 31 = .ok (.putfield 32, 3) := by decide +kernel
theorem dX4_rules_34 : decode cX4_rules 34 = .ok (.aload_n 0, 1) := by decide +kernel
theorem dX4_rules_35 : decode cX4_rules 35 = .ok (.iload_n 2, 1) := by decide +kernel
theorem dX4_rules_36 : decode cX4_rules 36 = .ok (.putfield 36, 3) := by decide +kernel
theorem dX4_rules_39 : decode cX4_rules 39 = .ok (.return_, 1) := by decide +kernel
set_option maxRecDepth 20000 in
theorem ggX4_run_X4_isBelow : GoodIn wsX4_run wsX4_isBelow := goodIn_r _ [6] (by decide +kernel) (by decide +kernel)
set_option maxRecDepth 20000 in
theorem gX4_run_X4_isBelow : GoodIn wsX4_run (va_wsS RX4 68 yX4_isBelow wsX4_isBelow) := goodIn_app (goodIn_of _ (by decide +kernel)) ggX4_run_X4_isBelow
set_option maxRecDepth 20000 in
theorem ggX4_run_X4_needKnown : GoodIn wsX4_run wsX4_needKnown := goodIn_ca (goodIn_r _ [9, 10, 11] (by decide +kernel) (by decide +kernel)) (goodIn_sub (fun _ h => List.mem_cons_of_mem _ (List.mem_append_left _ (List.mem_append_left _ (List.mem_append_right _ h)))) (by decide +kernel))
set_option maxRecDepth 20000 in
theorem gX4_run_X4_needKnown : GoodIn wsX4_run (va_wsS RX4 71 yX4_needKnown wsX4_needKnown) := goodIn_app (goodIn_of _ (by decide +kernel)) ggX4_run_X4_needKnown
set_option maxRecDepth 20000 in
theorem ggX4_run_X4_isWithin : GoodIn wsX4_run wsX4_isWithin := goodIn_r _ [14] (by decide +kernel) (by decide +kernel)
set_option maxRecDepth 20000 in
theorem gX4_run_X4_isWithin : GoodIn wsX4_run (va_wsS RX4 57 yX4_isWithin wsX4_isWithin) := goodIn_app (goodIn_of _ (by decide +kernel)) ggX4_run_X4_isWithin
set_option maxRecDepth 20000 in
theorem ggX4_run_X4_needRange : GoodIn wsX4_run wsX4_needRange := goodIn_ca (goodIn_r _ [17, 18, 19] (by decide +kernel) (by decide +kernel)) (goodIn_sub (fun _ h => List.mem_cons_of_mem _ (List.mem_append_left _ (List.mem_append_right _ h))) (by decide +kernel))
set_option maxRecDepth 20000 in
theorem gX4_run_X4_needRange : GoodIn wsX4_run (va_wsS RX4 43 yX4_needRange wsX4_needRange) := goodIn_app (goodIn_of _ (by decide +kernel)) ggX4_run_X4_needRange
set_option maxRecDepth 20000 in
theorem ggX4_run_X4_needState : GoodIn wsX4_run wsX4_needState := goodIn_ca (goodIn_r _ [22, 23, 24] (by decide +kernel) (by decide +kernel)) (goodIn_sub (fun _ h => List.mem_cons_of_mem _ (List.mem_append_right _ h)) (by decide +kernel))
set_option maxRecDepth 20000 in
theorem gX4_run_X4_needState : GoodIn wsX4_run (va_wsS RX4 78 yX4_needState wsX4_needState) := goodIn_app (goodIn_of _ (by decide +kernel)) ggX4_run_X4_needState
set_option maxRecDepth 20000 in
theorem ggX4_run_X4_lateOn : GoodIn wsX4_run wsX4_lateOn := goodIn_r _ [28, 29, 30, 1, 31, 32, 33, 34, 35, 36, 37, 38, 39, 40, 41, 42, 43, 44, 45, 46, 47, 48, 49, 50, 51, 52, 53, 54, 55, 56, 57, 58, 59, 60, 61, 62, 63, 64, 65, 66, 67, 68, 69, 70, 71, 72, 73, 74, 75, 76, 77, 78, 79, 80, 81, 82, 83, 84, 85, 86, 87, 88, 89, 90, 91, 92, 93, 94, 95, 96, 97, 98, 99, 100, 101, 102, 103, 104, 105, 106, 107, 108, 109, 110, 111, 112, 113, 114, 115, 116, 117, 118, 119, 120, 121, 122, 123, 124, 125, 126, 127, 128, 129, 130, 131, 132, 133, 134, 135, 136, 137, 138, 139, 140, 141, 142, 143, 144, 145, 146, 147, 148, 149, 150, 151, 152, 153, 154, 155, 156, 157, 166, 167, 168, 169, 170, 171, 172, 173, 174, 175, 176, 177, 178, 179, 180, 181, 158, 159, 160, 161, 162, 163, 164, 165, 182, 183] (by decide +kernel) (by decide +kernel)
set_option maxRecDepth 20000 in
theorem gX4_run_X4_lateOn : GoodIn wsX4_run (wsV RX4 95 RX4 yX4_lateOn wsX4_lateOn) := goodIn_app (goodIn_of _ (by decide +kernel)) ggX4_run_X4_lateOn
theorem dX4_run_0 : decode cX4_run 0 = .ok (.iload_n 1, 1) := by decide +kernel
theorem dX4_run_1 : decode cX4_run 1 = .ok (.iconst 4, 1) := by decide +kernel
theorem dX4_run_2 : decode cX4_run 2 = .ok (.invokestatic 68, 3) := by decide +kernel
theorem dX4_run_5 : decode cX4_run 5 = .ok (.invokestatic 71, 3) := by decide +kernel
theorem dX4_run_8 : decode cX4_run 8 = .ok (.iload_n 3, 1) := by decide +kernel
theorem dX4_run_9 : decode cX4_run 9 = .ok (.sipush 1000, 3) := by decide +kernel
theorem dX4_run_12 : decode cX4_run 12 = .ok (.invokestatic 68, 3) := by decide +kernel
theorem dX4_run_15 : decode cX4_run 15 = .ok (.ifCond .eq 18, 3) := by decide +kernel
theorem dX4_run_18 : decode cX4_run 18 = .ok (.iload 4, 2) := by decide +kernel
theorem dX4_run_20 : decode cX4_run 20 = .ok (.iconst 0, 1) := by decide +kernel
theorem dX4_run_21 : decode cX4_run 21 = .ok (.bipush 60, 2) := by decide +kernel
theorem dX4_run_23 : decode cX4_run 23 = .ok (.invokestatic 57, 3) := by decide +kernel
theorem dX4_run_26 : decode cX4_run 26 = .ok (.ifCond .eq 7, 3) := by decide +kernel
theorem dX4_run_29 : decode cX4_run 29 = .ok (.iconst 1, 1) := by decide +kernel
theorem dX4_run_30 : decode cX4_run 30 = .ok (.goto 4, 3) := by decide +kernel
theorem dX4_run_33 : decode cX4_run 33 = .ok (.iconst 0, 1) := by decide +kernel
theorem dX4_run_34 : decode cX4_run 34 = .ok (.invokestatic 43, 3) := by decide +kernel
theorem dX4_run_37 : decode cX4_run 37 = .ok (.iload 4, 2) := by decide +kernel
theorem dX4_run_39 : decode cX4_run 39 = .ok (.ifCond .eq 13, 3) := by decide +kernel
theorem dX4_run_42 : decode cX4_run 42 = .ok (.aload_n 0, 1) := by decide +kernel
theorem dX4_run_43 : decode cX4_run 43 = .ok (.getfield 14, 3) := by decide +kernel
theorem dX4_run_46 : decode cX4_run 46 = .ok (.getfield 61, 3) := by decide +kernel
theorem dX4_run_49 : decode cX4_run 49 = .ok (.ifCond .le 7, 3) := by decide +kernel
theorem dX4_run_52 : decode cX4_run 52 = .ok (.iconst 1, 1) := by decide +kernel
theorem dX4_run_53 : decode cX4_run 53 = .ok (.goto 4, 3) := by decide +kernel
theorem dX4_run_56 : decode cX4_run 56 = .ok (.iconst 0, 1) := by decide +kernel
theorem dX4_run_57 : decode cX4_run 57 = .ok (.invokestatic 78, 3) := by decide +kernel
theorem dX4_run_60 : decode cX4_run 60 = .ok (.aload_n 0, 1) := by decide +kernel
theorem dX4_run_61 : decode cX4_run 61 = .ok (.iload_n 1, 1) := by decide +kernel
theorem dX4_run_62 : decode cX4_run 62 = .ok (.iload_n 2, 1) := by decide +kernel
theorem dX4_run_63 : decode cX4_run 63 = .ok (.iload_n 3, 1) := by decide +kernel
theorem dX4_run_64 : decode cX4_run 64 = .ok (.iload 4, 2) := by decide +kernel
theorem dX4_run_66 : decode cX4_run 66 = .ok (.invokevirtual 95, 3) := by decide +kernel
theorem dX4_run_69 : decode cX4_run 69 = .ok (.ireturn, 1) := by decide +kernel
set_option maxRecDepth 20000 in
theorem ggX4_call_X4_isBelow : GoodIn wsX4_call wsX4_isBelow := goodIn_r _ [14] (by decide +kernel) (by decide +kernel)
set_option maxRecDepth 20000 in
theorem gX4_call_X4_isBelow : GoodIn wsX4_call (va_wsS RX4 68 yX4_isBelow wsX4_isBelow) := goodIn_app (goodIn_of _ (by decide +kernel)) ggX4_call_X4_isBelow
set_option maxRecDepth 20000 in
theorem ggX4_call_X4_needKnown : GoodIn wsX4_call wsX4_needKnown := goodIn_ca (goodIn_r _ [17, 1, 2] (by decide +kernel) (by decide +kernel)) (goodIn_sub (fun _ h => List.mem_cons_of_mem _ (List.mem_append_right _ h)) (by decide +kernel))
set_option maxRecDepth 20000 in
theorem gX4_call_X4_needKnown : GoodIn wsX4_call (va_wsS RX4 71 yX4_needKnown wsX4_needKnown) := goodIn_app (goodIn_of _ (by decide +kernel)) ggX4_call_X4_needKnown
set_option maxRecDepth 20000 in
theorem ggX4_call_X2_delay : GoodIn wsX4_call wsX2_delay := goodIn_r _ [22, 23, 24, 25, 26, 42, 43, 44, 45, 46, 47, 48, 49, 50, 51, 52, 53, 54, 55, 56, 57] (by decide +kernel) (by decide +kernel)
set_option maxRecDepth 20000 in
theorem gX4_call_X2_delay : GoodIn wsX4_call (wsV RX4 121 RX2 yX2_delay wsX2_delay) := goodIn_app (goodIn_of _ (by decide +kernel)) ggX4_call_X2_delay
set_option maxRecDepth 20000 in
theorem ggX4_call_X2_whyLate : GoodIn wsX4_call wsX2_whyLate := goodIn_r _ [30, 23, 31, 32, 33, 34, 21, 35, 36, 19, 20, 22, 24, 25, 26, 42, 43, 44, 45, 46, 47, 48, 49, 50, 51, 52, 53, 54, 55, 56, 57] (by decide +kernel) (by decide +kernel)
set_option maxRecDepth 20000 in
theorem gX4_call_X2_whyLate : GoodIn wsX4_call (wsV RX4 124 RX2 yX2_whyLate wsX2_whyLate) := goodIn_app (goodIn_of _ (by decide +kernel)) ggX4_call_X2_whyLate
theorem dX4_call_0 : decode cX4_call 0 = .ok (.aload_n 0, 1) := by decide +kernel
theorem dX4_call_1 : decode cX4_call 1 = .ok (.getfield 28, 3) := by decide +kernel
theorem dX4_call_4 : decode cX4_call 4 = .ok (.getfield 99, 3) := by decide +kernel
theorem dX4_call_7 : decode cX4_call 7 = .ok (.astore_n 3, 1) := by decide +kernel
theorem dX4_call_8 : decode cX4_call 8 = .ok (.iload_n 1, 1) := by decide +kernel
theorem dX4_call_9 : decode cX4_call 9 = .ok (.aload_n 3, 1) := by decide +kernel
theorem dX4_call_10 : decode cX4_call 10 = .ok (.getfield 103, 3) := by decide +kernel
theorem dX4_call_13 : decode cX4_call 13 = .ok (.invokestatic 68, 3) := by decide +kernel
theorem dX4_call_16 : decode cX4_call 16 = .ok (.invokestatic 71, 3) := by decide +kernel
theorem dX4_call_19 : decode cX4_call 19 = .ok (.iload_n 2, 1) := by decide +kernel
theorem dX4_call_20 : decode cX4_call 20 = .ok (.tableswitch 93 0 5 #[40, 47, 54, 61, 71, 80], 40) := by decide +kernel
theorem dX4_call_60 : decode cX4_call 60 = .ok (.aload_n 3, 1) := by decide +kernel
theorem dX4_call_61 : decode cX4_call 61 = .ok (.getfield 108, 3) := by decide +kernel
theorem dX4_call_64 : decode cX4_call 64 = .ok (.iload_n 1, 1) := by decide +kernel
theorem dX4_call_65 : decode cX4_call 65 = .ok (.iaload, 1) := by decide +kernel
theorem dX4_call_66 : decode cX4_call 66 = .ok (.ireturn, 1) := by decide +kernel
theorem dX4_call_67 : decode cX4_call 67 = .ok (.aload_n 3, 1) := by decide +kernel
theorem dX4_call_68 : decode cX4_call 68 = .ok (.getfield 112, 3) := by decide +kernel
theorem dX4_call_71 : decode cX4_call 71 = .ok (.iload_n 1, 1) := by decide +kernel
theorem dX4_call_72 : decode cX4_call 72 = .ok (.iaload, 1) := by decide +kernel
theorem dX4_call_73 : decode cX4_call 73 = .ok (.ireturn, 1) := by decide +kernel
theorem dX4_call_74 : decode cX4_call 74 = .ok (.aload_n 3, 1) := by decide +kernel
theorem dX4_call_75 : decode cX4_call 75 = .ok (.getfield 115, 3) := by decide +kernel
theorem dX4_call_78 : decode cX4_call 78 = .ok (.iload_n 1, 1) := by decide +kernel
theorem dX4_call_79 : decode cX4_call 79 = .ok (.iaload, 1) := by decide +kernel
theorem dX4_call_80 : decode cX4_call 80 = .ok (.ireturn, 1) := by decide +kernel
theorem dX4_call_81 : decode cX4_call 81 = .ok (.aload_n 0, 1) := by decide +kernel
theorem dX4_call_82 : decode cX4_call 82 = .ok (.getfield 28, 3) := by decide +kernel
theorem dX4_call_85 : decode cX4_call 85 = .ok (.getfield 118, 3) := by decide +kernel
theorem dX4_call_88 : decode cX4_call 88 = .ok (.iload_n 1, 1) := by decide +kernel
theorem dX4_call_89 : decode cX4_call 89 = .ok (.iaload, 1) := by decide +kernel
theorem dX4_call_90 : decode cX4_call 90 = .ok (.ireturn, 1) := by decide +kernel
theorem dX4_call_91 : decode cX4_call 91 = .ok (.aload_n 0, 1) := by decide +kernel
theorem dX4_call_92 : decode cX4_call 92 = .ok (.getfield 28, 3) := by decide +kernel
theorem dX4_call_95 : decode cX4_call 95 = .ok (.iload_n 1, 1) := by decide +kernel
theorem dX4_call_96 : decode cX4_call 96 = .ok (.invokevirtual 121, 3) := by decide +kernel
theorem dX4_call_99 : decode cX4_call 99 = .ok (.ireturn, 1) := by decide +kernel
theorem dX4_call_100 : decode cX4_call 100 = .ok (.aload_n 0, 1) := by decide +kernel
theorem dX4_call_101 : decode cX4_call 101 = .ok (.getfield 28, 3) := by decide +kernel
theorem dX4_call_104 : decode cX4_call 104 = .ok (.iload_n 1, 1) := by decide +kernel
theorem dX4_call_105 : decode cX4_call 105 = .ok (.aload_n 0, 1) := by decide +kernel
theorem dX4_call_106 : decode cX4_call 106 = .ok (.getfield 36, 3) := by decide +kernel
theorem dX4_call_109 : decode cX4_call 109 = .ok (.invokevirtual 124, 3) := by decide +kernel
theorem dX4_call_112 : decode cX4_call 112 = .ok (.ireturn, 1) := by decide +kernel
theorem dX4_call_113 : decode cX4_call 113 = .ok (.new 127, 3) := by decide +kernel
theorem dX4_call_116 : decode cX4_call 116 = .ok (.dup, 1) := by decide +kernel
theorem dX4_call_117 : decode cX4_call 117 = .ok (.ldc 129, 2) := by decide +kernel
theorem dX4_call_119 : decode cX4_call 119 = .ok (.invokespecial 131, 3) := by decide +kernel
theorem dX4_call_122 : decode cX4_call 122 = .ok (.athrow, 1) := by decide +kernel
set_option maxRecDepth 20000 in
theorem ggX4_share_X4_isWithin : GoodIn wsX4_share wsX4_isWithin := goodIn_r _ [10] (by decide +kernel) (by decide +kernel)
set_option maxRecDepth 20000 in
theorem gX4_share_X4_isWithin : GoodIn wsX4_share (va_wsS RX4 57 yX4_isWithin wsX4_isWithin) := goodIn_app (goodIn_of _ (by decide +kernel)) ggX4_share_X4_isWithin
set_option maxRecDepth 20000 in
theorem ggX4_share_X4_needKnown : GoodIn wsX4_share wsX4_needKnown := goodIn_ca (goodIn_r _ [13, 14, 15] (by decide +kernel) (by decide +kernel)) (goodIn_sub (fun _ h => List.mem_cons_of_mem _ (List.mem_append_right _ h)) (by decide +kernel))
set_option maxRecDepth 20000 in
theorem gX4_share_X4_needKnown : GoodIn wsX4_share (va_wsS RX4 71 yX4_needKnown wsX4_needKnown) := goodIn_app (goodIn_of _ (by decide +kernel)) ggX4_share_X4_needKnown
set_option maxRecDepth 20000 in
theorem ggX4_share_X2_countLate : GoodIn wsX4_share wsX2_countLate := goodIn_r _ [20, 21, 22, 23, 24, 25, 19, 26, 27, 28, 29, 30, 31, 32, 33, 49, 50, 51, 52, 53, 54, 55, 56, 57, 58, 59, 60, 61, 62, 63, 64] (by decide +kernel) (by decide +kernel)
set_option maxRecDepth 20000 in
theorem gX4_share_X2_countLate : GoodIn wsX4_share (wsV RX4 139 RX2 yX2_countLate wsX2_countLate) := goodIn_app (goodIn_of _ (by decide +kernel)) ggX4_share_X2_countLate
set_option maxRecDepth 20000 in
theorem ggX4_share_X4_lowestTerm : GoodIn wsX4_share wsX4_lowestTerm := goodIn_r _ [36, 37, 38, 9, 39, 40, 41, 42, 43] (by decide +kernel) (by decide +kernel)
set_option maxRecDepth 20000 in
theorem gX4_share_X4_lowestTerm : GoodIn wsX4_share (va_wsS RX4 142 yX4_lowestTerm wsX4_lowestTerm) := goodIn_app (goodIn_of _ (by decide +kernel)) ggX4_share_X4_lowestTerm
theorem dX4_share_0 : decode cX4_share 0 = .ok (.iload_n 1, 1) := by decide +kernel
theorem dX4_share_1 : decode cX4_share 1 = .ok (.iconst 0, 1) := by decide +kernel
theorem dX4_share_2 : decode cX4_share 2 = .ok (.iconst 1, 1) := by decide +kernel
theorem dX4_share_3 : decode cX4_share 3 = .ok (.invokestatic 57, 3) := by decide +kernel
theorem dX4_share_6 : decode cX4_share 6 = .ok (.invokestatic 71, 3) := by decide +kernel
theorem dX4_share_9 : decode cX4_share 9 = .ok (.aload_n 0, 1) := by decide +kernel
theorem dX4_share_10 : decode cX4_share 10 = .ok (.getfield 28, 3) := by decide +kernel
theorem dX4_share_13 : decode cX4_share 13 = .ok (.getfield 99, 3) := by decide +kernel
theorem dX4_share_16 : decode cX4_share 16 = .ok (.getfield 103, 3) := by decide +kernel
theorem dX4_share_19 : decode cX4_share 19 = .ok (.istore_n 2, 1) := by decide +kernel
theorem dX4_share_20 : decode cX4_share 20 = .ok (.iload_n 2, 1) := by decide +kernel
theorem dX4_share_21 : decode cX4_share 21 = .ok (.ifCond .ne 13, 3) := by decide +kernel
theorem dX4_share_24 : decode cX4_share 24 = .ok (.new 134, 3) := by decide +kernel
theorem dX4_share_27 : decode cX4_share 27 = .ok (.dup, 1) := by decide +kernel
theorem dX4_share_28 : decode cX4_share 28 = .ok (.ldc 136, 2) := by decide +kernel
theorem dX4_share_30 : decode cX4_share 30 = .ok (.invokespecial 138, 3) := by decide +kernel
theorem dX4_share_33 : decode cX4_share 33 = .ok (.athrow, 1) := by decide +kernel
theorem dX4_share_34 : decode cX4_share 34 = .ok (.iload_n 2, 1) := by decide +kernel
theorem dX4_share_35 : decode cX4_share 35 = .ok (.aload_n 0, 1) := by decide +kernel
theorem dX4_share_36 : decode cX4_share 36 = .ok (.getfield 28, 3) := by decide +kernel
theorem dX4_share_39 : decode cX4_share 39 = .ok (.aload_n 0, 1) := by decide +kernel
theorem dX4_share_40 : decode cX4_share 40 = .ok (.getfield 36, 3) := by decide +kernel
theorem dX4_share_43 : decode cX4_share 43 = .ok (.invokevirtual 139, 3) := by decide +kernel
theorem dX4_share_46 : decode cX4_share 46 = .ok (.isub, 1) := by decide +kernel
theorem dX4_share_47 : decode cX4_share 47 = .ok (.iload_n 2, 1) := by decide +kernel
theorem dX4_share_48 : decode cX4_share 48 = .ok (.iload_n 1, 1) := by decide +kernel
theorem dX4_share_49 : decode cX4_share 49 = .ok (.ifCond .ne 7, 3) := by decide +kernel
theorem dX4_share_52 : decode cX4_share 52 = .ok (.iconst 1, 1) := by decide +kernel
theorem dX4_share_53 : decode cX4_share 53 = .ok (.goto 4, 3) := by decide +kernel
theorem dX4_share_56 : decode cX4_share 56 = .ok (.iconst 0, 1) := by decide +kernel
theorem dX4_share_57 : decode cX4_share 57 = .ok (.invokestatic 142, 3) := by decide +kernel
theorem dX4_share_60 : decode cX4_share 60 = .ok (.ireturn, 1) := by decide +kernel
set_option maxRecDepth 20000 in
theorem ggX4_mean_X2_countServed : GoodIn wsX4_mean wsX2_countServed := goodIn_r _ [9, 10, 11, 12, 28, 29, 30, 31, 32, 33, 34, 35, 36, 37, 38, 39, 40, 41, 42, 43] (by decide +kernel) (by decide +kernel)
set_option maxRecDepth 20000 in
theorem gX4_mean_X2_countServed : GoodIn wsX4_mean (wsV RX4 146 RX2 yX2_countServed wsX2_countServed) := goodIn_app (goodIn_of _ (by decide +kernel)) ggX4_mean_X2_countServed
set_option maxRecDepth 20000 in
theorem ggX4_mean_X2_sumOfDelays : GoodIn wsX4_mean wsX2_sumOfDelays := goodIn_r _ [16, 10, 11, 12, 17, 18, 19, 8, 20, 21, 22, 28, 29, 30, 31, 32, 33, 34, 35, 36, 37, 38, 39, 40, 41, 42, 43] (by decide +kernel) (by decide +kernel)
set_option maxRecDepth 20000 in
theorem gX4_mean_X2_sumOfDelays : GoodIn wsX4_mean (wsV RX4 152 RX2 yX2_sumOfDelays wsX2_sumOfDelays) := goodIn_app (goodIn_of _ (by decide +kernel)) ggX4_mean_X2_sumOfDelays
theorem dX4_mean_0 : decode cX4_mean 0 = .ok (.aload_n 0, 1) := by decide +kernel
theorem dX4_mean_1 : decode cX4_mean 1 = .ok (.getfield 28, 3) := by decide +kernel
theorem dX4_mean_4 : decode cX4_mean 4 = .ok (.invokevirtual 146, 3) := by decide +kernel
theorem dX4_mean_7 : decode cX4_mean 7 = .ok (.istore_n 1, 1) := by decide +kernel
theorem dX4_mean_8 : decode cX4_mean 8 = .ok (.iload_n 1, 1) := by decide +kernel
theorem dX4_mean_9 : decode cX4_mean 9 = .ok (.ifCond .ne 13, 3) := by decide +kernel
theorem dX4_mean_12 : decode cX4_mean 12 = .ok (.new 134, 3) := by decide +kernel
theorem dX4_mean_15 : decode cX4_mean 15 = .ok (.dup, 1) := by decide +kernel
theorem dX4_mean_16 : decode cX4_mean 16 = .ok (.ldc 150, 2) := by decide +kernel
theorem dX4_mean_18 : decode cX4_mean 18 = .ok (.invokespecial 138, 3) := by decide +kernel
theorem dX4_mean_21 : decode cX4_mean 21 = .ok (.athrow, 1) := by decide +kernel
theorem dX4_mean_22 : decode cX4_mean 22 = .ok (.aload_n 0, 1) := by decide +kernel
theorem dX4_mean_23 : decode cX4_mean 23 = .ok (.getfield 28, 3) := by decide +kernel
theorem dX4_mean_26 : decode cX4_mean 26 = .ok (.invokevirtual 152, 3) := by decide +kernel
theorem dX4_mean_29 : decode cX4_mean 29 = .ok (.ldc2_w 156, 3) := by decide +kernel
theorem dX4_mean_32 : decode cX4_mean 32 = .ok (.lmul, 1) := by decide +kernel
theorem dX4_mean_33 : decode cX4_mean 33 = .ok (.iload_n 1, 1) := by decide +kernel
theorem dX4_mean_34 : decode cX4_mean 34 = .ok (.i2l, 1) := by decide +kernel
theorem dX4_mean_35 : decode cX4_mean 35 = .ok (.ldiv, 1) := by decide +kernel
theorem dX4_mean_36 : decode cX4_mean 36 = .ok (.l2i, 1) := by decide +kernel
theorem dX4_mean_37 : decode cX4_mean 37 = .ok (.ireturn, 1) := by decide +kernel
theorem dX4_missed_0 : decode cX4_missed 0 = .ok (.aload_n 0, 1) := by decide +kernel
theorem dX4_missed_1 : decode cX4_missed 1 = .ok (.getfield 28, 3) := by decide +kernel
theorem dX4_missed_4 : decode cX4_missed 4 = .ok (.getfield 158, 3) := by decide +kernel
theorem dX4_missed_7 : decode cX4_missed 7 = .ok (.ireturn, 1) := by decide +kernel
set_option maxRecDepth 20000 in
theorem ggX4_work_X4_isBelow : GoodIn wsX4_work wsX4_isBelow := goodIn_r _ [8] (by decide +kernel) (by decide +kernel)
set_option maxRecDepth 20000 in
theorem gX4_work_X4_isBelow : GoodIn wsX4_work (va_wsS RX4 68 yX4_isBelow wsX4_isBelow) := goodIn_app (goodIn_of _ (by decide +kernel)) ggX4_work_X4_isBelow
set_option maxRecDepth 20000 in
theorem ggX4_work_X4_needKnown : GoodIn wsX4_work wsX4_needKnown := goodIn_ca (goodIn_r _ [11, 12, 13] (by decide +kernel) (by decide +kernel)) (goodIn_sub (fun _ h => List.mem_cons_of_mem _ (List.mem_append_right _ h)) (by decide +kernel))
set_option maxRecDepth 20000 in
theorem gX4_work_X4_needKnown : GoodIn wsX4_work (va_wsS RX4 71 yX4_needKnown wsX4_needKnown) := goodIn_app (goodIn_of _ (by decide +kernel)) ggX4_work_X4_needKnown
theorem dX4_work_0 : decode cX4_work 0 = .ok (.iload_n 1, 1) := by decide +kernel
theorem dX4_work_1 : decode cX4_work 1 = .ok (.aload_n 0, 1) := by decide +kernel
theorem dX4_work_2 : decode cX4_work 2 = .ok (.getfield 21, 3) := by decide +kernel
theorem dX4_work_5 : decode cX4_work 5 = .ok (.getfield 81, 3) := by decide +kernel
theorem dX4_work_8 : decode cX4_work 8 = .ok (.invokestatic 68, 3) := by decide +kernel
theorem dX4_work_11 : decode cX4_work 11 = .ok (.invokestatic 71, 3) := by decide +kernel
theorem dX4_work_14 : decode cX4_work 14 = .ok (.aload_n 0, 1) := by decide +kernel
theorem dX4_work_15 : decode cX4_work 15 = .ok (.getfield 28, 3) := by decide +kernel
theorem dX4_work_18 : decode cX4_work 18 = .ok (.getfield 161, 3) := by decide +kernel
theorem dX4_work_21 : decode cX4_work 21 = .ok (.iload_n 1, 1) := by decide +kernel
theorem dX4_work_22 : decode cX4_work 22 = .ok (.iaload, 1) := by decide +kernel
theorem dX4_work_23 : decode cX4_work 23 = .ok (.ireturn, 1) := by decide +kernel
set_option maxRecDepth 20000 in
theorem ggX4_worst_X2_hourOfMostLate : GoodIn wsX4_worst wsX2_hourOfMostLate := goodIn_r _ [7, 8, 9, 10, 11, 12, 13, 14, 6, 15, 16, 17, 18, 19, 20, 21, 27, 28, 29, 30, 31, 32, 33, 34, 35, 36, 37, 38, 39, 40, 41, 42] (by decide +kernel) (by decide +kernel)
set_option maxRecDepth 20000 in
theorem gX4_worst_X2_hourOfMostLate : GoodIn wsX4_worst (wsV RX4 164 RX2 yX2_hourOfMostLate wsX2_hourOfMostLate) := goodIn_app (goodIn_of _ (by decide +kernel)) ggX4_worst_X2_hourOfMostLate
theorem dX4_worst_0 : decode cX4_worst 0 = .ok (.aload_n 0, 1) := by decide +kernel
theorem dX4_worst_1 : decode cX4_worst 1 = .ok (.getfield 28, 3) := by decide +kernel
theorem dX4_worst_4 : decode cX4_worst 4 = .ok (.aload_n 0, 1) := by decide +kernel
theorem dX4_worst_5 : decode cX4_worst 5 = .ok (.getfield 36, 3) := by decide +kernel
theorem dX4_worst_8 : decode cX4_worst 8 = .ok (.invokevirtual 164, 3) := by decide +kernel
theorem dX4_worst_11 : decode cX4_worst 11 = .ok (.ireturn, 1) := by decide +kernel
set_option maxRecDepth 20000 in
theorem ggX4_arrived_X4_isWithin : GoodIn wsX4_arrived wsX4_isWithin := goodIn_r _ [5] (by decide +kernel) (by decide +kernel)
set_option maxRecDepth 20000 in
theorem gX4_arrived_X4_isWithin : GoodIn wsX4_arrived (va_wsS RX4 57 yX4_isWithin wsX4_isWithin) := goodIn_app (goodIn_of _ (by decide +kernel)) ggX4_arrived_X4_isWithin
set_option maxRecDepth 20000 in
theorem ggX4_arrived_X4_needRange : GoodIn wsX4_arrived wsX4_needRange := goodIn_ca (goodIn_r _ [8, 9, 10] (by decide +kernel) (by decide +kernel)) (goodIn_sub (fun _ h => List.mem_cons_of_mem _ (List.mem_append_right _ h)) (by decide +kernel))
set_option maxRecDepth 20000 in
theorem gX4_arrived_X4_needRange : GoodIn wsX4_arrived (va_wsS RX4 43 yX4_needRange wsX4_needRange) := goodIn_app (goodIn_of _ (by decide +kernel)) ggX4_arrived_X4_needRange
set_option maxRecDepth 20000 in
theorem ggX4_arrived_X2_countArrivedBy : GoodIn wsX4_arrived wsX2_countArrivedBy := goodIn_r _ [15, 16, 17, 18, 19, 25, 26, 27, 28, 29, 30, 31, 32, 33, 34, 35, 36, 37, 38, 39, 40] (by decide +kernel) (by decide +kernel)
set_option maxRecDepth 20000 in
theorem gX4_arrived_X2_countArrivedBy : GoodIn wsX4_arrived (wsV RX4 167 RX2 yX2_countArrivedBy wsX2_countArrivedBy) := goodIn_app (goodIn_of _ (by decide +kernel)) ggX4_arrived_X2_countArrivedBy
theorem dX4_arrived_0 : decode cX4_arrived 0 = .ok (.iload_n 1, 1) := by decide +kernel
theorem dX4_arrived_1 : decode cX4_arrived 1 = .ok (.iconst 0, 1) := by decide +kernel
theorem dX4_arrived_2 : decode cX4_arrived 2 = .ok (.sipush 9999, 3) := by decide +kernel
theorem dX4_arrived_5 : decode cX4_arrived 5 = .ok (.invokestatic 57, 3) := by decide +kernel
theorem dX4_arrived_8 : decode cX4_arrived 8 = .ok (.invokestatic 43, 3) := by decide +kernel
theorem dX4_arrived_11 : decode cX4_arrived 11 = .ok (.aload_n 0, 1) := by decide +kernel
theorem dX4_arrived_12 : decode cX4_arrived 12 = .ok (.getfield 28, 3) := by decide +kernel
theorem dX4_arrived_15 : decode cX4_arrived 15 = .ok (.iload_n 1, 1) := by decide +kernel
theorem dX4_arrived_16 : decode cX4_arrived 16 = .ok (.invokevirtual 167, 3) := by decide +kernel
theorem dX4_arrived_19 : decode cX4_arrived 19 = .ok (.ireturn, 1) := by decide +kernel
set_option maxRecDepth 20000 in
theorem ggX4_unlucky_X4_isBelow : GoodIn wsX4_unlucky wsX4_isBelow := goodIn_r _ [7] (by decide +kernel) (by decide +kernel)
set_option maxRecDepth 20000 in
theorem gX4_unlucky_X4_isBelow : GoodIn wsX4_unlucky (va_wsS RX4 68 yX4_isBelow wsX4_isBelow) := goodIn_app (goodIn_of _ (by decide +kernel)) ggX4_unlucky_X4_isBelow
set_option maxRecDepth 20000 in
theorem ggX4_unlucky_X4_needKnown : GoodIn wsX4_unlucky wsX4_needKnown := goodIn_ca (goodIn_r _ [10, 11, 12] (by decide +kernel) (by decide +kernel)) (goodIn_sub (fun _ h => List.mem_cons_of_mem _ (List.mem_append_left _ (List.mem_append_left _ (List.mem_append_right _ h)))) (by decide +kernel))
set_option maxRecDepth 20000 in
theorem gX4_unlucky_X4_needKnown : GoodIn wsX4_unlucky (va_wsS RX4 71 yX4_needKnown wsX4_needKnown) := goodIn_app (goodIn_of _ (by decide +kernel)) ggX4_unlucky_X4_needKnown
set_option maxRecDepth 20000 in
theorem ggX4_unlucky_X4_isWithin : GoodIn wsX4_unlucky wsX4_isWithin := goodIn_r _ [15] (by decide +kernel) (by decide +kernel)
set_option maxRecDepth 20000 in
theorem gX4_unlucky_X4_isWithin : GoodIn wsX4_unlucky (va_wsS RX4 57 yX4_isWithin wsX4_isWithin) := goodIn_app (goodIn_of _ (by decide +kernel)) ggX4_unlucky_X4_isWithin
set_option maxRecDepth 20000 in
theorem ggX4_unlucky_X4_needRange : GoodIn wsX4_unlucky wsX4_needRange := goodIn_ca (goodIn_r _ [18, 19, 20] (by decide +kernel) (by decide +kernel)) (goodIn_sub (fun _ h => List.mem_cons_of_mem _ (List.mem_append_left _ (List.mem_append_right _ h))) (by decide +kernel))
set_option maxRecDepth 20000 in
theorem gX4_unlucky_X4_needRange : GoodIn wsX4_unlucky (va_wsS RX4 43 yX4_needRange wsX4_needRange) := goodIn_app (goodIn_of _ (by decide +kernel)) ggX4_unlucky_X4_needRange
set_option maxRecDepth 20000 in
theorem ggX4_unlucky_X4_needState : GoodIn wsX4_unlucky wsX4_needState := goodIn_ca (goodIn_r _ [23, 24, 25] (by decide +kernel) (by decide +kernel)) (goodIn_sub (fun _ h => List.mem_cons_of_mem _ (List.mem_append_right _ h)) (by decide +kernel))
set_option maxRecDepth 20000 in
theorem gX4_unlucky_X4_needState : GoodIn wsX4_unlucky (va_wsS RX4 78 yX4_needState wsX4_needState) := goodIn_app (goodIn_of _ (by decide +kernel)) ggX4_unlucky_X4_needState
set_option maxRecDepth 20000 in
theorem ggX4_unlucky_X4_lateOn : GoodIn wsX4_unlucky wsX4_lateOn := goodIn_r _ [29, 3, 30, 1, 31, 32, 33, 34, 35, 36, 37, 38, 39, 40, 41, 42, 43, 44, 45, 46, 47, 48, 49, 50, 51, 52, 53, 54, 55, 56, 57, 58, 59, 60, 61, 62, 63, 64, 65, 66, 67, 68, 69, 70, 71, 72, 73, 74, 75, 76, 77, 78, 79, 80, 81, 82, 83, 84, 85, 86, 87, 88, 89, 90, 91, 92, 93, 94, 95, 96, 97, 98, 99, 100, 101, 102, 103, 104, 105, 106, 107, 108, 109, 110, 111, 112, 113, 114, 115, 116, 117, 118, 119, 120, 121, 122, 123, 124, 125, 126, 127, 128, 129, 130, 131, 132, 133, 134, 135, 136, 137, 138, 139, 140, 141, 142, 143, 144, 145, 146, 147, 148, 149, 150, 151, 152, 157, 158, 159, 160, 161, 170, 171, 172, 173, 174, 175, 176, 177, 178, 179, 180, 181, 182, 183, 184, 185, 162, 163, 164, 165, 166, 167, 168, 169, 186, 187] (by decide +kernel) (by decide +kernel)
set_option maxRecDepth 20000 in
theorem gX4_unlucky_X4_lateOn : GoodIn wsX4_unlucky (wsV RX4 95 RX4 yX4_lateOn wsX4_lateOn) := goodIn_app (goodIn_of _ (by decide +kernel)) ggX4_unlucky_X4_lateOn
set_option maxRecDepth 20000 in
theorem ggX4_unlucky_X2_forget : GoodIn wsX4_unlucky wsX2_forget := goodIn_r _ [156, 105, 111, 69, 71, 170, 171, 172, 173, 174, 175, 176, 177, 178, 179, 180, 181, 182, 183, 184, 185] (by decide +kernel) (by decide +kernel)
set_option maxRecDepth 20000 in
theorem gX4_unlucky_X2_forget : GoodIn wsX4_unlucky (wsV RX4 170 RX2 yX2_forget wsX2_forget) := goodIn_app (goodIn_of _ (by decide +kernel)) ggX4_unlucky_X2_forget
theorem dX4_unlucky_0 : decode cX4_unlucky 0 = .ok (.iload_n 1, 1) := by decide +kernel
theorem dX4_unlucky_1 : decode cX4_unlucky 1 = .ok (.iconst 4, 1) := by decide +kernel
theorem dX4_unlucky_2 : decode cX4_unlucky 2 = .ok (.invokestatic 68, 3) := by decide +kernel
theorem dX4_unlucky_5 : decode cX4_unlucky 5 = .ok (.invokestatic 71, 3) := by decide +kernel
theorem dX4_unlucky_8 : decode cX4_unlucky 8 = .ok (.iload_n 3, 1) := by decide +kernel
theorem dX4_unlucky_9 : decode cX4_unlucky 9 = .ok (.iconst 1, 1) := by decide +kernel
theorem dX4_unlucky_10 : decode cX4_unlucky 10 = .ok (.bipush 8, 2) := by decide +kernel
theorem dX4_unlucky_12 : decode cX4_unlucky 12 = .ok (.invokestatic 57, 3) := by decide +kernel
theorem dX4_unlucky_15 : decode cX4_unlucky 15 = .ok (.ifCond .eq 29, 3) := by decide +kernel
theorem dX4_unlucky_18 : decode cX4_unlucky 18 = .ok (.iload 4, 2) := by decide +kernel
theorem dX4_unlucky_20 : decode cX4_unlucky 20 = .ok (.sipush 1000, 3) := by decide +kernel
theorem dX4_unlucky_23 : decode cX4_unlucky 23 = .ok (.invokestatic 68, 3) := by decide +kernel
theorem dX4_unlucky_26 : decode cX4_unlucky 26 = .ok (.ifCond .eq 18, 3) := by decide +kernel
theorem dX4_unlucky_29 : decode cX4_unlucky 29 = .ok (.iload 5, 2) := by decide +kernel
theorem dX4_unlucky_31 : decode cX4_unlucky 31 = .ok (.iconst 0, 1) := by decide +kernel
theorem dX4_unlucky_32 : decode cX4_unlucky 32 = .ok (.bipush 60, 2) := by decide +kernel
theorem dX4_unlucky_34 : decode cX4_unlucky 34 = .ok (.invokestatic 57, 3) := by decide +kernel
theorem dX4_unlucky_37 : decode cX4_unlucky 37 = .ok (.ifCond .eq 7, 3) := by decide +kernel
theorem dX4_unlucky_40 : decode cX4_unlucky 40 = .ok (.iconst 1, 1) := by decide +kernel
theorem dX4_unlucky_41 : decode cX4_unlucky 41 = .ok (.goto 4, 3) := by decide +kernel
theorem dX4_unlucky_44 : decode cX4_unlucky 44 = .ok (.iconst 0, 1) := by decide +kernel
theorem dX4_unlucky_45 : decode cX4_unlucky 45 = .ok (.invokestatic 43, 3) := by decide +kernel
theorem dX4_unlucky_48 : decode cX4_unlucky 48 = .ok (.iload 5, 2) := by decide +kernel
theorem dX4_unlucky_50 : decode cX4_unlucky 50 = .ok (.ifCond .eq 13, 3) := by decide +kernel
theorem dX4_unlucky_53 : decode cX4_unlucky 53 = .ok (.aload_n 0, 1) := by decide +kernel
theorem dX4_unlucky_54 : decode cX4_unlucky 54 = .ok (.getfield 14, 3) := by decide +kernel
theorem dX4_unlucky_57 : decode cX4_unlucky 57 = .ok (.getfield 61, 3) := by decide +kernel
theorem dX4_unlucky_60 : decode cX4_unlucky 60 = .ok (.ifCond .le 7, 3) := by decide +kernel
theorem dX4_unlucky_63 : decode cX4_unlucky 63 = .ok (.iconst 1, 1) := by decide +kernel
theorem dX4_unlucky_64 : decode cX4_unlucky 64 = .ok (.goto 4, 3) := by decide +kernel
theorem dX4_unlucky_67 : decode cX4_unlucky 67 = .ok (.iconst 0, 1) := by decide +kernel
theorem dX4_unlucky_68 : decode cX4_unlucky 68 = .ok (.invokestatic 78, 3) := by decide +kernel
theorem dX4_unlucky_71 : decode cX4_unlucky 71 = .ok (.iconst (-1), 1) := by decide +kernel
theorem dX4_unlucky_72 : decode cX4_unlucky 72 = .ok (.istore 6, 2) := by decide +kernel
theorem dX4_unlucky_74 : decode cX4_unlucky 74 = .ok (.iload_n 2, 1) := by decide +kernel
theorem dX4_unlucky_75 : decode cX4_unlucky 75 = .ok (.istore 7, 2) := by decide +kernel
theorem dX4_unlucky_77 : decode cX4_unlucky 77 = .ok (.iconst 0, 1) := by decide +kernel
theorem dX4_unlucky_78 : decode cX4_unlucky 78 = .ok (.istore 8, 2) := by decide +kernel
theorem dX4_unlucky_80 : decode cX4_unlucky 80 = .ok (.iload 8, 2) := by decide +kernel
theorem dX4_unlucky_82 : decode cX4_unlucky 82 = .ok (.iload_n 3, 1) := by decide +kernel
theorem dX4_unlucky_83 : decode cX4_unlucky 83 = .ok (.if_icmp .ge 41, 3) := by decide +kernel
theorem dX4_unlucky_86 : decode cX4_unlucky 86 = .ok (.aload_n 0, 1) := by decide +kernel
theorem dX4_unlucky_87 : decode cX4_unlucky 87 = .ok (.iload_n 1, 1) := by decide +kernel
theorem dX4_unlucky_88 : decode cX4_unlucky 88 = .ok (.iload_n 2, 1) := by decide +kernel
theorem dX4_unlucky_89 : decode cX4_unlucky 89 = .ok (.iload 8, 2) := by decide +kernel
theorem dX4_unlucky_91 : decode cX4_unlucky 91 = .ok (.iadd, 1) := by decide +kernel
theorem dX4_unlucky_92 : decode cX4_unlucky 92 = .ok (.iload 4, 2) := by decide +kernel
theorem dX4_unlucky_94 : decode cX4_unlucky 94 = .ok (.iload 5, 2) := by decide +kernel
theorem dX4_unlucky_96 : decode cX4_unlucky 96 = .ok (.invokevirtual 95, 3) := by decide +kernel
theorem dX4_unlucky_99 : decode cX4_unlucky 99 = .ok (.istore 9, 2) := by decide +kernel
theorem dX4_unlucky_101 : decode cX4_unlucky 101 = .ok (.iload 9, 2) := by decide +kernel
theorem dX4_unlucky_103 : decode cX4_unlucky 103 = .ok (.iload 6, 2) := by decide +kernel
theorem dX4_unlucky_105 : decode cX4_unlucky 105 = .ok (.if_icmp .le 13, 3) := by decide +kernel
theorem dX4_unlucky_108 : decode cX4_unlucky 108 = .ok (.iload 9, 2) := by decide +kernel
theorem dX4_unlucky_110 : decode cX4_unlucky 110 = .ok (.istore 6, 2) := by decide +kernel
theorem dX4_unlucky_112 : decode cX4_unlucky 112 = .ok (.iload_n 2, 1) := by decide +kernel
theorem dX4_unlucky_113 : decode cX4_unlucky 113 = .ok (.iload 8, 2) := by decide +kernel
theorem dX4_unlucky_115 : decode cX4_unlucky 115 = .ok (.iadd, 1) := by decide +kernel
theorem dX4_unlucky_116 : decode cX4_unlucky 116 = .ok (.istore 7, 2) := by decide +kernel
theorem dX4_unlucky_118 : decode cX4_unlucky 118 = .ok (.iinc 8 1, 3) := by decide +kernel
theorem dX4_unlucky_121 : decode cX4_unlucky 121 = .ok (.goto (-41), 3) := by decide +kernel
theorem dX4_unlucky_124 : decode cX4_unlucky 124 = .ok (.aload_n 0, 1) := by decide +kernel
theorem dX4_unlucky_125 : decode cX4_unlucky 125 = .ok (.getfield 28, 3) := by decide +kernel
theorem dX4_unlucky_128 : decode cX4_unlucky 128 = .ok (.invokevirtual 170, 3) := by decide +kernel
theorem dX4_unlucky_131 : decode cX4_unlucky 131 = .ok (.iload 7, 2) := by decide +kernel
theorem dX4_unlucky_133 : decode cX4_unlucky 133 = .ok (.ireturn, 1) := by decide +kernel
set_option maxRecDepth 20000 in
theorem ggX4_compare_X4_isBelow : GoodIn wsX4_compare wsX4_isBelow := goodIn_r _ [7] (by decide +kernel) (by decide +kernel)
set_option maxRecDepth 20000 in
theorem gX4_compare_X4_isBelow : GoodIn wsX4_compare (va_wsS RX4 68 yX4_isBelow wsX4_isBelow) := goodIn_app (goodIn_of _ (by decide +kernel)) ggX4_compare_X4_isBelow
set_option maxRecDepth 20000 in
theorem ggX4_compare_X4_isWithin : GoodIn wsX4_compare wsX4_isWithin := goodIn_r _ [10] (by decide +kernel) (by decide +kernel)
set_option maxRecDepth 20000 in
theorem gX4_compare_X4_isWithin : GoodIn wsX4_compare (va_wsS RX4 57 yX4_isWithin wsX4_isWithin) := goodIn_app (goodIn_of _ (by decide +kernel)) ggX4_compare_X4_isWithin
set_option maxRecDepth 20000 in
theorem ggX4_compare_X4_needKnown : GoodIn wsX4_compare wsX4_needKnown := goodIn_ca (goodIn_r _ [13, 14, 15] (by decide +kernel) (by decide +kernel)) (goodIn_sub (fun _ h => List.mem_cons_of_mem _ (List.mem_append_left _ (List.mem_append_left _ (List.mem_append_right _ h)))) (by decide +kernel))
set_option maxRecDepth 20000 in
theorem gX4_compare_X4_needKnown : GoodIn wsX4_compare (va_wsS RX4 71 yX4_needKnown wsX4_needKnown) := goodIn_app (goodIn_of _ (by decide +kernel)) ggX4_compare_X4_needKnown
set_option maxRecDepth 20000 in
theorem ggX4_compare_X4_needRange : GoodIn wsX4_compare wsX4_needRange := goodIn_ca (goodIn_r _ [18, 19, 20] (by decide +kernel) (by decide +kernel)) (goodIn_sub (fun _ h => List.mem_cons_of_mem _ (List.mem_append_left _ (List.mem_append_right _ h))) (by decide +kernel))
set_option maxRecDepth 20000 in
theorem gX4_compare_X4_needRange : GoodIn wsX4_compare (va_wsS RX4 43 yX4_needRange wsX4_needRange) := goodIn_app (goodIn_of _ (by decide +kernel)) ggX4_compare_X4_needRange
set_option maxRecDepth 20000 in
theorem ggX4_compare_X4_needState : GoodIn wsX4_compare wsX4_needState := goodIn_ca (goodIn_r _ [23, 24, 25] (by decide +kernel) (by decide +kernel)) (goodIn_sub (fun _ h => List.mem_cons_of_mem _ (List.mem_append_right _ h)) (by decide +kernel))
set_option maxRecDepth 20000 in
theorem gX4_compare_X4_needState : GoodIn wsX4_compare (va_wsS RX4 78 yX4_needState wsX4_needState) := goodIn_app (goodIn_of _ (by decide +kernel)) ggX4_compare_X4_needState
set_option maxRecDepth 20000 in
theorem ggX4_compare_X4_lateOn : GoodIn wsX4_compare wsX4_lateOn := goodIn_r _ [29, 3, 30, 1, 31, 32, 33, 34, 35, 36, 37, 38, 39, 40, 41, 42, 43, 44, 45, 46, 47, 48, 49, 50, 51, 52, 53, 54, 55, 56, 57, 58, 59, 60, 61, 62, 63, 64, 65, 66, 67, 68, 69, 70, 71, 72, 73, 74, 75, 76, 77, 78, 79, 80, 81, 82, 83, 84, 85, 86, 87, 88, 89, 90, 91, 92, 93, 94, 95, 96, 97, 98, 99, 100, 101, 102, 103, 104, 105, 106, 107, 108, 109, 110, 111, 112, 113, 114, 115, 116, 117, 118, 119, 120, 121, 122, 123, 124, 125, 126, 127, 128, 129, 130, 131, 132, 133, 134, 135, 136, 137, 138, 139, 140, 141, 142, 143, 144, 145, 146, 147, 148, 149, 150, 151, 152, 167, 168, 169, 170, 171, 180, 181, 182, 183, 184, 185, 186, 187, 188, 189, 190, 191, 192, 193, 194, 195, 172, 173, 174, 175, 176, 177, 178, 179, 196, 197] (by decide +kernel) (by decide +kernel)
set_option maxRecDepth 20000 in
theorem gX4_compare_X4_lateOn : GoodIn wsX4_compare (wsV RX4 95 RX4 yX4_lateOn wsX4_lateOn) := goodIn_app (goodIn_of _ (by decide +kernel)) ggX4_compare_X4_lateOn
set_option maxRecDepth 20000 in
theorem ggX4_compare_X2_forget : GoodIn wsX4_compare wsX2_forget := goodIn_r _ [156, 105, 111, 69, 71, 180, 181, 182, 183, 184, 185, 186, 187, 188, 189, 190, 191, 192, 193, 194, 195] (by decide +kernel) (by decide +kernel)
set_option maxRecDepth 20000 in
theorem gX4_compare_X2_forget : GoodIn wsX4_compare (wsV RX4 170 RX2 yX2_forget wsX2_forget) := goodIn_app (goodIn_of _ (by decide +kernel)) ggX4_compare_X2_forget
set_option maxRecDepth 20000 in
theorem ggX4_compare_X4_waysOfHeads : GoodIn wsX4_compare wsX4_waysOfHeads := goodIn_r _ [159] (by decide +kernel) (by decide +kernel)
set_option maxRecDepth 20000 in
theorem gX4_compare_X4_waysOfHeads : GoodIn wsX4_compare (va_wsS RX4 173 yX4_waysOfHeads wsX4_waysOfHeads) := goodIn_app (goodIn_of _ (by decide +kernel)) ggX4_compare_X4_waysOfHeads
set_option maxRecDepth 20000 in
theorem ggX4_compare_X4_lowestTerm : GoodIn wsX4_compare wsX4_lowestTerm := goodIn_r _ [162, 163, 164, 6, 165, 166, 57, 58, 59] (by decide +kernel) (by decide +kernel)
set_option maxRecDepth 20000 in
theorem gX4_compare_X4_lowestTerm : GoodIn wsX4_compare (va_wsS RX4 142 yX4_lowestTerm wsX4_lowestTerm) := goodIn_app (goodIn_of _ (by decide +kernel)) ggX4_compare_X4_lowestTerm
theorem dX4_compare_0 : decode cX4_compare 0 = .ok (.iload_n 1, 1) := by decide +kernel
theorem dX4_compare_1 : decode cX4_compare 1 = .ok (.iconst 4, 1) := by decide +kernel
theorem dX4_compare_2 : decode cX4_compare 2 = .ok (.invokestatic 68, 3) := by decide +kernel
theorem dX4_compare_5 : decode cX4_compare 5 = .ok (.ifCond .eq 25, 3) := by decide +kernel
theorem dX4_compare_8 : decode cX4_compare 8 = .ok (.iload_n 2, 1) := by decide +kernel
theorem dX4_compare_9 : decode cX4_compare 9 = .ok (.iconst 4, 1) := by decide +kernel
theorem dX4_compare_10 : decode cX4_compare 10 = .ok (.invokestatic 68, 3) := by decide +kernel
theorem dX4_compare_13 : decode cX4_compare 13 = .ok (.ifCond .eq 17, 3) := by decide +kernel
theorem dX4_compare_16 : decode cX4_compare 16 = .ok (.iload 6, 2) := by decide +kernel
theorem dX4_compare_18 : decode cX4_compare 18 = .ok (.iconst 0, 1) := by decide +kernel
theorem dX4_compare_19 : decode cX4_compare 19 = .ok (.iconst 3, 1) := by decide +kernel
theorem dX4_compare_20 : decode cX4_compare 20 = .ok (.invokestatic 57, 3) := by decide +kernel
theorem dX4_compare_23 : decode cX4_compare 23 = .ok (.ifCond .eq 7, 3) := by decide +kernel
theorem dX4_compare_26 : decode cX4_compare 26 = .ok (.iconst 1, 1) := by decide +kernel
theorem dX4_compare_27 : decode cX4_compare 27 = .ok (.goto 4, 3) := by decide +kernel
theorem dX4_compare_30 : decode cX4_compare 30 = .ok (.iconst 0, 1) := by decide +kernel
theorem dX4_compare_31 : decode cX4_compare 31 = .ok (.invokestatic 71, 3) := by decide +kernel
theorem dX4_compare_34 : decode cX4_compare 34 = .ok (.iload 5, 2) := by decide +kernel
theorem dX4_compare_36 : decode cX4_compare 36 = .ok (.iconst 1, 1) := by decide +kernel
theorem dX4_compare_37 : decode cX4_compare 37 = .ok (.bipush 20, 2) := by decide +kernel
theorem dX4_compare_39 : decode cX4_compare 39 = .ok (.invokestatic 57, 3) := by decide +kernel
theorem dX4_compare_42 : decode cX4_compare 42 = .ok (.ifCond .eq 22, 3) := by decide +kernel
theorem dX4_compare_45 : decode cX4_compare 45 = .ok (.iload 4, 2) := by decide +kernel
theorem dX4_compare_47 : decode cX4_compare 47 = .ok (.iconst 0, 1) := by decide +kernel
theorem dX4_compare_48 : decode cX4_compare 48 = .ok (.sipush 1000, 3) := by decide +kernel
theorem dX4_compare_51 : decode cX4_compare 51 = .ok (.iload 5, 2) := by decide +kernel
theorem dX4_compare_53 : decode cX4_compare 53 = .ok (.isub, 1) := by decide +kernel
theorem dX4_compare_54 : decode cX4_compare 54 = .ok (.invokestatic 57, 3) := by decide +kernel
theorem dX4_compare_57 : decode cX4_compare 57 = .ok (.ifCond .eq 7, 3) := by decide +kernel
theorem dX4_compare_60 : decode cX4_compare 60 = .ok (.iconst 1, 1) := by decide +kernel
theorem dX4_compare_61 : decode cX4_compare 61 = .ok (.goto 4, 3) := by decide +kernel
theorem dX4_compare_64 : decode cX4_compare 64 = .ok (.iconst 0, 1) := by decide +kernel
theorem dX4_compare_65 : decode cX4_compare 65 = .ok (.invokestatic 43, 3) := by decide +kernel
theorem dX4_compare_68 : decode cX4_compare 68 = .ok (.aload_n 0, 1) := by decide +kernel
theorem dX4_compare_69 : decode cX4_compare 69 = .ok (.getfield 14, 3) := by decide +kernel
theorem dX4_compare_72 : decode cX4_compare 72 = .ok (.getfield 61, 3) := by decide +kernel
theorem dX4_compare_75 : decode cX4_compare 75 = .ok (.ifCond .le 7, 3) := by decide +kernel
theorem dX4_compare_78 : decode cX4_compare 78 = .ok (.iconst 1, 1) := by decide +kernel
theorem dX4_compare_79 : decode cX4_compare 79 = .ok (.goto 4, 3) := by decide +kernel
theorem dX4_compare_82 : decode cX4_compare 82 = .ok (.iconst 0, 1) := by decide +kernel
theorem dX4_compare_83 : decode cX4_compare 83 = .ok (.invokestatic 78, 3) := by decide +kernel
theorem dX4_compare_86 : decode cX4_compare 86 = .ok (.iconst 0, 1) := by decide +kernel
theorem dX4_compare_87 : decode cX4_compare 87 = .ok (.istore 7, 2) := by decide +kernel
theorem dX4_compare_89 : decode cX4_compare 89 = .ok (.iconst 0, 1) := by decide +kernel
theorem dX4_compare_90 : decode cX4_compare 90 = .ok (.istore 8, 2) := by decide +kernel
theorem dX4_compare_92 : decode cX4_compare 92 = .ok (.iconst 0, 1) := by decide +kernel
theorem dX4_compare_93 : decode cX4_compare 93 = .ok (.istore 9, 2) := by decide +kernel
theorem dX4_compare_95 : decode cX4_compare 95 = .ok (.iload 9, 2) := by decide +kernel
theorem dX4_compare_97 : decode cX4_compare 97 = .ok (.iload 5, 2) := by decide +kernel
theorem dX4_compare_99 : decode cX4_compare 99 = .ok (.if_icmp .ge 62, 3) := by decide +kernel
theorem dX4_compare_102 : decode cX4_compare 102 = .ok (.aload_n 0, 1) := by decide +kernel
theorem dX4_compare_103 : decode cX4_compare 103 = .ok (.iload_n 1, 1) := by decide +kernel
theorem dX4_compare_104 : decode cX4_compare 104 = .ok (.iload_n 3, 1) := by decide +kernel
theorem dX4_compare_105 : decode cX4_compare 105 = .ok (.iload 4, 2) := by decide +kernel
theorem dX4_compare_107 : decode cX4_compare 107 = .ok (.iload 9, 2) := by decide +kernel
theorem dX4_compare_109 : decode cX4_compare 109 = .ok (.iadd, 1) := by decide +kernel
theorem dX4_compare_110 : decode cX4_compare 110 = .ok (.bipush 12, 2) := by decide +kernel
theorem dX4_compare_112 : decode cX4_compare 112 = .ok (.invokevirtual 95, 3) := by decide +kernel
theorem dX4_compare_115 : decode cX4_compare 115 = .ok (.istore 10, 2) := by decide +kernel
theorem dX4_compare_117 : decode cX4_compare 117 = .ok (.aload_n 0, 1) := by decide +kernel
theorem dX4_compare_118 : decode cX4_compare 118 = .ok (.iload_n 2, 1) := by decide +kernel
theorem dX4_compare_119 : decode cX4_compare 119 = .ok (.iload_n 3, 1) := by decide +kernel
theorem dX4_compare_120 : decode cX4_compare 120 = .ok (.iload 4, 2) := by decide +kernel
theorem dX4_compare_122 : decode cX4_compare 122 = .ok (.iload 9, 2) := by decide +kernel
theorem dX4_compare_124 : decode cX4_compare 124 = .ok (.iadd, 1) := by decide +kernel
theorem dX4_compare_125 : decode cX4_compare 125 = .ok (.bipush 12, 2) := by decide +kernel
theorem dX4_compare_127 : decode cX4_compare 127 = .ok (.invokevirtual 95, 3) := by decide +kernel
theorem dX4_compare_130 : decode cX4_compare 130 = .ok (.istore 11, 2) := by decide +kernel
theorem dX4_compare_132 : decode cX4_compare 132 = .ok (.iload 10, 2) := by decide +kernel
theorem dX4_compare_134 : decode cX4_compare 134 = .ok (.iload 11, 2) := by decide +kernel
theorem dX4_compare_136 : decode cX4_compare 136 = .ok (.if_icmp .ge 9, 3) := by decide +kernel
theorem dX4_compare_139 : decode cX4_compare 139 = .ok (.iinc 7 1, 3) := by decide +kernel
theorem dX4_compare_142 : decode cX4_compare 142 = .ok (.goto 13, 3) := by decide +kernel
theorem dX4_compare_145 : decode cX4_compare 145 = .ok (.iload 10, 2) := by decide +kernel
theorem dX4_compare_147 : decode cX4_compare 147 = .ok (.iload 11, 2) := by decide +kernel
theorem dX4_compare_149 : decode cX4_compare 149 = .ok (.if_icmp .le 6, 3) := by decide +kernel
theorem dX4_compare_152 : decode cX4_compare 152 = .ok (.iinc 8 1, 3) := by decide +kernel
theorem dX4_compare_155 : decode cX4_compare 155 = .ok (.iinc 9 1, 3) := by decide +kernel
theorem dX4_compare_158 : decode cX4_compare 158 = .ok (.goto (-63), 3) := by decide +kernel
theorem dX4_compare_161 : decode cX4_compare 161 = .ok (.aload_n 0, 1) := by decide +kernel
theorem dX4_compare_162 : decode cX4_compare 162 = .ok (.getfield 28, 3) := by decide +kernel
theorem dX4_compare_165 : decode cX4_compare 165 = .ok (.invokevirtual 170, 3) := by decide +kernel
theorem dX4_compare_168 : decode cX4_compare 168 = .ok (.iload 6, 2) := by decide +kernel
theorem dX4_compare_170 : decode cX4_compare 170 = .ok (.iconst 2, 1) := by decide +kernel
theorem dX4_compare_171 : decode cX4_compare 171 = .ok (.if_icmp .ge 16, 3) := by decide +kernel
theorem dX4_compare_174 : decode cX4_compare 174 = .ok (.iload 6, 2) := by decide +kernel
theorem dX4_compare_176 : decode cX4_compare 176 = .ok (.ifCond .ne 8, 3) := by decide +kernel
theorem dX4_compare_179 : decode cX4_compare 179 = .ok (.iload 7, 2) := by decide +kernel
theorem dX4_compare_181 : decode cX4_compare 181 = .ok (.goto 5, 3) := by decide +kernel
theorem dX4_compare_184 : decode cX4_compare 184 = .ok (.iload 8, 2) := by decide +kernel
theorem dX4_compare_186 : decode cX4_compare 186 = .ok (.ireturn, 1) := by decide +kernel
theorem dX4_compare_187 : decode cX4_compare 187 = .ok (.iload 7, 2) := by decide +kernel
theorem dX4_compare_189 : decode cX4_compare 189 = .ok (.iload 8, 2) := by decide +kernel
theorem dX4_compare_191 : decode cX4_compare 191 = .ok (.iadd, 1) := by decide +kernel
theorem dX4_compare_192 : decode cX4_compare 192 = .ok (.istore 9, 2) := by decide +kernel
theorem dX4_compare_194 : decode cX4_compare 194 = .ok (.iload 9, 2) := by decide +kernel
theorem dX4_compare_196 : decode cX4_compare 196 = .ok (.iload 7, 2) := by decide +kernel
theorem dX4_compare_198 : decode cX4_compare 198 = .ok (.invokestatic 173, 3) := by decide +kernel
theorem dX4_compare_201 : decode cX4_compare 201 = .ok (.iconst 1, 1) := by decide +kernel
theorem dX4_compare_202 : decode cX4_compare 202 = .ok (.iload 9, 2) := by decide +kernel
theorem dX4_compare_204 : decode cX4_compare 204 = .ok (.ishl, 1) := by decide +kernel
theorem dX4_compare_205 : decode cX4_compare 205 = .ok (.iload 6, 2) := by decide +kernel
theorem dX4_compare_207 : decode cX4_compare 207 = .ok (.iconst 2, 1) := by decide +kernel
theorem dX4_compare_208 : decode cX4_compare 208 = .ok (.if_icmp .ne 7, 3) := by decide +kernel
theorem dX4_compare_211 : decode cX4_compare 211 = .ok (.iconst 1, 1) := by decide +kernel
theorem dX4_compare_212 : decode cX4_compare 212 = .ok (.goto 4, 3) := by decide +kernel
theorem dX4_compare_215 : decode cX4_compare 215 = .ok (.iconst 0, 1) := by decide +kernel
theorem dX4_compare_216 : decode cX4_compare 216 = .ok (.invokestatic 142, 3) := by decide +kernel
theorem dX4_compare_219 : decode cX4_compare 219 = .ok (.ireturn, 1) := by decide +kernel
set_option maxRecDepth 20000 in
theorem ggX4_lateOn_X0_draw : GoodIn wsX4_lateOn wsX0_draw := goodIn_r _ [11, 12, 13, 14, 15, 16, 17, 18, 19, 10, 20, 21, 22, 23, 24, 25, 26, 27, 28, 29, 30, 31, 32, 33, 34, 142, 143, 144, 145, 146, 147, 148, 149, 150, 151, 152, 153, 154] (by decide +kernel) (by decide +kernel)
set_option maxRecDepth 20000 in
theorem gX4_lateOn_X0_draw : GoodIn wsX4_lateOn (wsV RX4 176 RX0 yX0_draw wsX0_draw) := goodIn_app (goodIn_of _ (by decide +kernel)) ggX4_lateOn_X0_draw
set_option maxRecDepth 20000 in
theorem ggX4_lateOn_X2_begin : GoodIn wsX4_lateOn wsX2_begin := goodIn_r _ [39, 40, 41, 42, 43, 44, 45, 46, 47, 48, 49, 38, 50, 51, 52, 53, 54, 55, 56, 26, 57, 58, 59, 60, 61, 31, 62, 63, 64, 155, 156, 131, 132, 133, 134, 135, 136, 137, 138, 139, 140, 141, 147, 148, 149, 150, 151, 152, 153, 154] (by decide +kernel) (by decide +kernel)
set_option maxRecDepth 20000 in
theorem gX4_lateOn_X2_begin : GoodIn wsX4_lateOn (wsV RX4 180 RX2 yX2_begin wsX2_begin) := goodIn_app (goodIn_of _ (by decide +kernel)) ggX4_lateOn_X2_begin
set_option maxRecDepth 20000 in
theorem ggX4_lateOn_X2_playOut : GoodIn wsX4_lateOn wsX2_playOut := goodIn_r _ [68, 69, 42, 70, 71, 31, 72, 73, 30, 32, 74, 75, 76, 38, 77, 78, 79, 80, 81, 82, 83, 84, 46, 85, 86, 87, 88, 89, 90, 91, 92, 93, 94, 41, 53, 95, 96, 97, 98, 51, 43, 99, 100, 101, 102, 103, 104, 105, 44, 106, 107, 108, 109, 110, 111, 112, 113, 131, 132, 133, 134, 135, 136, 137, 138, 139, 140, 141, 142, 143, 144, 145, 146] (by decide +kernel) (by decide +kernel)
set_option maxRecDepth 20000 in
theorem gX4_lateOn_X2_playOut : GoodIn wsX4_lateOn (wsV RX4 184 RX2 yX2_playOut wsX2_playOut) := goodIn_app (goodIn_of _ (by decide +kernel)) ggX4_lateOn_X2_playOut
set_option maxRecDepth 20000 in
theorem ggX4_lateOn_X2_countLate : GoodIn wsX4_lateOn wsX2_countLate := goodIn_r _ [117, 78, 84, 118, 119, 120, 38, 121, 46, 122, 123, 124, 125, 104, 85, 131, 132, 133, 134, 135, 136, 137, 138, 139, 140, 141, 142, 143, 144, 145, 146] (by decide +kernel) (by decide +kernel)
set_option maxRecDepth 20000 in
theorem gX4_lateOn_X2_countLate : GoodIn wsX4_lateOn (wsV RX4 139 RX2 yX2_countLate wsX2_countLate) := goodIn_app (goodIn_of _ (by decide +kernel)) ggX4_lateOn_X2_countLate
theorem dX4_lateOn_0 : decode cX4_lateOn 0 = .ok (.aload_n 0, 1) := by decide +kernel
theorem dX4_lateOn_1 : decode cX4_lateOn 1 = .ok (.getfield 28, 3) := by decide +kernel
theorem dX4_lateOn_4 : decode cX4_lateOn 4 = .ok (.getfield 99, 3) := by decide +kernel
theorem dX4_lateOn_7 : decode cX4_lateOn 7 = .ok (.aload_n 0, 1) := by decide +kernel
theorem dX4_lateOn_8 : decode cX4_lateOn 8 = .ok (.getfield 14, 3) := by decide +kernel
theorem dX4_lateOn_11 : decode cX4_lateOn 11 = .ok (.iload_n 2, 1) := by decide +kernel
theorem dX4_lateOn_12 : decode cX4_lateOn 12 = .ok (.iload_n 3, 1) := by decide +kernel
theorem dX4_lateOn_13 : decode cX4_lateOn 13 = .ok (.iload 4, 2) := by decide +kernel
theorem dX4_lateOn_15 : decode cX4_lateOn 15 = .ok (.invokevirtual 176, 3) := by decide +kernel
theorem dX4_lateOn_18 : decode cX4_lateOn 18 = .ok (.aload_n 0, 1) := by decide +kernel
theorem dX4_lateOn_19 : decode cX4_lateOn 19 = .ok (.getfield 28, 3) := by decide +kernel
theorem dX4_lateOn_22 : decode cX4_lateOn 22 = .ok (.aload_n 0, 1) := by decide +kernel
theorem dX4_lateOn_23 : decode cX4_lateOn 23 = .ok (.getfield 14, 3) := by decide +kernel
theorem dX4_lateOn_26 : decode cX4_lateOn 26 = .ok (.aload_n 0, 1) := by decide +kernel
theorem dX4_lateOn_27 : decode cX4_lateOn 27 = .ok (.getfield 21, 3) := by decide +kernel
theorem dX4_lateOn_30 : decode cX4_lateOn 30 = .ok (.iload_n 1, 1) := by decide +kernel
theorem dX4_lateOn_31 : decode cX4_lateOn 31 = .ok (.aload_n 0, 1) := by decide +kernel
theorem dX4_lateOn_32 : decode cX4_lateOn 32 = .ok (.getfield 32, 3) := by decide +kernel
theorem dX4_lateOn_35 : decode cX4_lateOn 35 = .ok (.invokevirtual 180, 3) := by decide +kernel
theorem dX4_lateOn_38 : decode cX4_lateOn 38 = .ok (.aload_n 0, 1) := by decide +kernel
theorem dX4_lateOn_39 : decode cX4_lateOn 39 = .ok (.getfield 28, 3) := by decide +kernel
theorem dX4_lateOn_42 : decode cX4_lateOn 42 = .ok (.invokevirtual 184, 3) := by decide +kernel
theorem dX4_lateOn_45 : decode cX4_lateOn 45 = .ok (.aload_n 0, 1) := by decide +kernel
theorem dX4_lateOn_46 : decode cX4_lateOn 46 = .ok (.getfield 28, 3) := by decide +kernel
theorem dX4_lateOn_49 : decode cX4_lateOn 49 = .ok (.aload_n 0, 1) := by decide +kernel
theorem dX4_lateOn_50 : decode cX4_lateOn 50 = .ok (.getfield 36, 3) := by decide +kernel
theorem dX4_lateOn_53 : decode cX4_lateOn 53 = .ok (.invokevirtual 139, 3) := by decide +kernel
theorem dX4_lateOn_56 : decode cX4_lateOn 56 = .ok (.ireturn, 1) := by decide +kernel
theorem dX4_waysOfHeads_0 : decode cX4_waysOfHeads 0 = .ok (.iconst 0, 1) := by decide +kernel
theorem dX4_waysOfHeads_1 : decode cX4_waysOfHeads 1 = .ok (.istore_n 2, 1) := by decide +kernel
theorem dX4_waysOfHeads_2 : decode cX4_waysOfHeads 2 = .ok (.iconst 1, 1) := by decide +kernel
theorem dX4_waysOfHeads_3 : decode cX4_waysOfHeads 3 = .ok (.istore_n 3, 1) := by decide +kernel
theorem dX4_waysOfHeads_4 : decode cX4_waysOfHeads 4 = .ok (.iconst 0, 1) := by decide +kernel
theorem dX4_waysOfHeads_5 : decode cX4_waysOfHeads 5 = .ok (.istore 4, 2) := by decide +kernel
theorem dX4_waysOfHeads_7 : decode cX4_waysOfHeads 7 = .ok (.iload 4, 2) := by decide +kernel
theorem dX4_waysOfHeads_9 : decode cX4_waysOfHeads 9 = .ok (.iload_n 0, 1) := by decide +kernel
theorem dX4_waysOfHeads_10 : decode cX4_waysOfHeads 10 = .ok (.if_icmp .gt 31, 3) := by decide +kernel
theorem dX4_waysOfHeads_13 : decode cX4_waysOfHeads 13 = .ok (.iload 4, 2) := by decide +kernel
theorem dX4_waysOfHeads_15 : decode cX4_waysOfHeads 15 = .ok (.iload_n 1, 1) := by decide +kernel
theorem dX4_waysOfHeads_16 : decode cX4_waysOfHeads 16 = .ok (.if_icmp .lt 7, 3) := by decide +kernel
theorem dX4_waysOfHeads_19 : decode cX4_waysOfHeads 19 = .ok (.iload_n 2, 1) := by decide +kernel
theorem dX4_waysOfHeads_20 : decode cX4_waysOfHeads 20 = .ok (.iload_n 3, 1) := by decide +kernel
theorem dX4_waysOfHeads_21 : decode cX4_waysOfHeads 21 = .ok (.iadd, 1) := by decide +kernel
theorem dX4_waysOfHeads_22 : decode cX4_waysOfHeads 22 = .ok (.istore_n 2, 1) := by decide +kernel
theorem dX4_waysOfHeads_23 : decode cX4_waysOfHeads 23 = .ok (.iload_n 3, 1) := by decide +kernel
theorem dX4_waysOfHeads_24 : decode cX4_waysOfHeads 24 = .ok (.iload_n 0, 1) := by decide +kernel
theorem dX4_waysOfHeads_25 : decode cX4_waysOfHeads 25 = .ok (.iload 4, 2) := by decide +kernel
theorem dX4_waysOfHeads_27 : decode cX4_waysOfHeads 27 = .ok (.isub, 1) := by decide +kernel
theorem dX4_waysOfHeads_28 : decode cX4_waysOfHeads 28 = .ok (.imul, 1) := by decide +kernel
theorem dX4_waysOfHeads_29 : decode cX4_waysOfHeads 29 = .ok (.iload 4, 2) := by decide +kernel
theorem dX4_waysOfHeads_31 : decode cX4_waysOfHeads 31 = .ok (.iconst 1, 1) := by decide +kernel
theorem dX4_waysOfHeads_32 : decode cX4_waysOfHeads 32 = .ok (.iadd, 1) := by decide +kernel
theorem dX4_waysOfHeads_33 : decode cX4_waysOfHeads 33 = .ok (.idiv, 1) := by decide +kernel
theorem dX4_waysOfHeads_34 : decode cX4_waysOfHeads 34 = .ok (.istore_n 3, 1) := by decide +kernel
theorem dX4_waysOfHeads_35 : decode cX4_waysOfHeads 35 = .ok (.iinc 4 1, 3) := by decide +kernel
theorem dX4_waysOfHeads_38 : decode cX4_waysOfHeads 38 = .ok (.goto (-31), 3) := by decide +kernel
theorem dX4_waysOfHeads_41 : decode cX4_waysOfHeads 41 = .ok (.iload_n 2, 1) := by decide +kernel
theorem dX4_waysOfHeads_42 : decode cX4_waysOfHeads 42 = .ok (.ireturn, 1) := by decide +kernel
set_option maxRecDepth 20000 in
theorem ggX4_lowestTerm_X4_commonDivisor : GoodIn wsX4_lowestTerm wsX4_commonDivisor := goodIn_r _ [4, 5, 6, 7, 8] (by decide +kernel) (by decide +kernel)
set_option maxRecDepth 20000 in
theorem gX4_lowestTerm_X4_commonDivisor : GoodIn wsX4_lowestTerm (va_wsS RX4 187 yX4_commonDivisor wsX4_commonDivisor) := goodIn_app (goodIn_of _ (by decide +kernel)) ggX4_lowestTerm_X4_commonDivisor
theorem dX4_lowestTerm_0 : decode cX4_lowestTerm 0 = .ok (.iload_n 0, 1) := by decide +kernel
theorem dX4_lowestTerm_1 : decode cX4_lowestTerm 1 = .ok (.iload_n 1, 1) := by decide +kernel
theorem dX4_lowestTerm_2 : decode cX4_lowestTerm 2 = .ok (.invokestatic 187, 3) := by decide +kernel
theorem dX4_lowestTerm_5 : decode cX4_lowestTerm 5 = .ok (.istore_n 3, 1) := by decide +kernel
theorem dX4_lowestTerm_6 : decode cX4_lowestTerm 6 = .ok (.iload_n 2, 1) := by decide +kernel
theorem dX4_lowestTerm_7 : decode cX4_lowestTerm 7 = .ok (.ifCond .eq 7, 3) := by decide +kernel
theorem dX4_lowestTerm_10 : decode cX4_lowestTerm 10 = .ok (.iload_n 0, 1) := by decide +kernel
theorem dX4_lowestTerm_11 : decode cX4_lowestTerm 11 = .ok (.goto 4, 3) := by decide +kernel
theorem dX4_lowestTerm_14 : decode cX4_lowestTerm 14 = .ok (.iload_n 1, 1) := by decide +kernel
theorem dX4_lowestTerm_15 : decode cX4_lowestTerm 15 = .ok (.iload_n 3, 1) := by decide +kernel
theorem dX4_lowestTerm_16 : decode cX4_lowestTerm 16 = .ok (.idiv, 1) := by decide +kernel
theorem dX4_lowestTerm_17 : decode cX4_lowestTerm 17 = .ok (.ireturn, 1) := by decide +kernel
theorem dX4_commonDivisor_0 : decode cX4_commonDivisor 0 = .ok (.iload_n 0, 1) := by decide +kernel
theorem dX4_commonDivisor_1 : decode cX4_commonDivisor 1 = .ok (.istore_n 2, 1) := by decide +kernel
theorem dX4_commonDivisor_2 : decode cX4_commonDivisor 2 = .ok (.iload_n 1, 1) := by decide +kernel
theorem dX4_commonDivisor_3 : decode cX4_commonDivisor 3 = .ok (.istore_n 3, 1) := by decide +kernel
theorem dX4_commonDivisor_4 : decode cX4_commonDivisor 4 = .ok (.iconst 0, 1) := by decide +kernel
theorem dX4_commonDivisor_5 : decode cX4_commonDivisor 5 = .ok (.istore 4, 2) := by decide +kernel
theorem dX4_commonDivisor_7 : decode cX4_commonDivisor 7 = .ok (.iload 4, 2) := by decide +kernel
theorem dX4_commonDivisor_9 : decode cX4_commonDivisor 9 = .ok (.bipush 100, 2) := by decide +kernel
theorem dX4_commonDivisor_11 : decode cX4_commonDivisor 11 = .ok (.if_icmp .ge 23, 3) := by decide +kernel
theorem dX4_commonDivisor_14 : decode cX4_commonDivisor 14 = .ok (.iload_n 3, 1) := by decide +kernel
theorem dX4_commonDivisor_15 : decode cX4_commonDivisor 15 = .ok (.ifCond .eq 19, 3) := by decide +kernel
theorem dX4_commonDivisor_18 : decode cX4_commonDivisor 18 = .ok (.iload_n 2, 1) := by decide +kernel
theorem dX4_commonDivisor_19 : decode cX4_commonDivisor 19 = .ok (.iload_n 3, 1) := by decide +kernel
theorem dX4_commonDivisor_20 : decode cX4_commonDivisor 20 = .ok (.irem, 1) := by decide +kernel
theorem dX4_commonDivisor_21 : decode cX4_commonDivisor 21 = .ok (.istore 5, 2) := by decide +kernel
theorem dX4_commonDivisor_23 : decode cX4_commonDivisor 23 = .ok (.iload_n 3, 1) := by decide +kernel
theorem dX4_commonDivisor_24 : decode cX4_commonDivisor 24 = .ok (.istore_n 2, 1) := by decide +kernel
theorem dX4_commonDivisor_25 : decode cX4_commonDivisor 25 = .ok (.iload 5, 2) := by decide +kernel
theorem dX4_commonDivisor_27 : decode cX4_commonDivisor 27 = .ok (.istore_n 3, 1) := by decide +kernel
theorem dX4_commonDivisor_28 : decode cX4_commonDivisor 28 = .ok (.iinc 4 1, 3) := by decide +kernel
theorem dX4_commonDivisor_31 : decode cX4_commonDivisor 31 = .ok (.goto (-24), 3) := by decide +kernel
theorem dX4_commonDivisor_34 : decode cX4_commonDivisor 34 = .ok (.iload_n 2, 1) := by decide +kernel
theorem dX4_commonDivisor_35 : decode cX4_commonDivisor 35 = .ok (.iconst 1, 1) := by decide +kernel
theorem dX4_commonDivisor_36 : decode cX4_commonDivisor 36 = .ok (.invokestatic 190, 3) := by decide +kernel
theorem dX4_commonDivisor_39 : decode cX4_commonDivisor 39 = .ok (.ireturn, 1) := by decide +kernel
theorem dX4_isWithin_0 : decode cX4_isWithin 0 = .ok (.iload_n 0, 1) := by decide +kernel
theorem dX4_isWithin_1 : decode cX4_isWithin 1 = .ok (.iload_n 1, 1) := by decide +kernel
theorem dX4_isWithin_2 : decode cX4_isWithin 2 = .ok (.if_icmp .lt 12, 3) := by decide +kernel
theorem dX4_isWithin_5 : decode cX4_isWithin 5 = .ok (.iload_n 0, 1) := by decide +kernel
theorem dX4_isWithin_6 : decode cX4_isWithin 6 = .ok (.iload_n 2, 1) := by decide +kernel
theorem dX4_isWithin_7 : decode cX4_isWithin 7 = .ok (.if_icmp .gt 7, 3) := by decide +kernel
theorem dX4_isWithin_10 : decode cX4_isWithin 10 = .ok (.iconst 1, 1) := by decide +kernel
theorem dX4_isWithin_11 : decode cX4_isWithin 11 = .ok (.goto 4, 3) := by decide +kernel
theorem dX4_isWithin_14 : decode cX4_isWithin 14 = .ok (.iconst 0, 1) := by decide +kernel
theorem dX4_isWithin_15 : decode cX4_isWithin 15 = .ok (.ireturn, 1) := by decide +kernel
theorem dX4_isBelow_0 : decode cX4_isBelow 0 = .ok (.iload_n 0, 1) := by decide +kernel
theorem dX4_isBelow_1 : decode cX4_isBelow 1 = .ok (.ifCond .lt 12, 3) := by decide +kernel
theorem dX4_isBelow_4 : decode cX4_isBelow 4 = .ok (.iload_n 0, 1) := by decide +kernel
theorem dX4_isBelow_5 : decode cX4_isBelow 5 = .ok (.iload_n 1, 1) := by decide +kernel
theorem dX4_isBelow_6 : decode cX4_isBelow 6 = .ok (.if_icmp .ge 7, 3) := by decide +kernel
theorem dX4_isBelow_9 : decode cX4_isBelow 9 = .ok (.iconst 1, 1) := by decide +kernel
theorem dX4_isBelow_10 : decode cX4_isBelow 10 = .ok (.goto 4, 3) := by decide +kernel
theorem dX4_isBelow_13 : decode cX4_isBelow 13 = .ok (.iconst 0, 1) := by decide +kernel
theorem dX4_isBelow_14 : decode cX4_isBelow 14 = .ok (.ireturn, 1) := by decide +kernel
set_option maxRecDepth 20000 in
theorem ggX4_isPlace_X4_isBelow : GoodIn wsX4_isPlace wsX4_isBelow := goodIn_r _ [4] (by decide +kernel) (by decide +kernel)
set_option maxRecDepth 20000 in
theorem gX4_isPlace_X4_isBelow : GoodIn wsX4_isPlace (va_wsS RX4 68 yX4_isBelow wsX4_isBelow) := goodIn_app (goodIn_of _ (by decide +kernel)) ggX4_isPlace_X4_isBelow
theorem dX4_isPlace_0 : decode cX4_isPlace 0 = .ok (.iload_n 0, 1) := by decide +kernel
theorem dX4_isPlace_1 : decode cX4_isPlace 1 = .ok (.bipush 100, 2) := by decide +kernel
theorem dX4_isPlace_3 : decode cX4_isPlace 3 = .ok (.invokestatic 68, 3) := by decide +kernel
theorem dX4_isPlace_6 : decode cX4_isPlace 6 = .ok (.ifCond .eq 16, 3) := by decide +kernel
theorem dX4_isPlace_9 : decode cX4_isPlace 9 = .ok (.iload_n 1, 1) := by decide +kernel
theorem dX4_isPlace_10 : decode cX4_isPlace 10 = .ok (.bipush 100, 2) := by decide +kernel
theorem dX4_isPlace_12 : decode cX4_isPlace 12 = .ok (.invokestatic 68, 3) := by decide +kernel
theorem dX4_isPlace_15 : decode cX4_isPlace 15 = .ok (.ifCond .eq 7, 3) := by decide +kernel
theorem dX4_isPlace_18 : decode cX4_isPlace 18 = .ok (.iconst 1, 1) := by decide +kernel
theorem dX4_isPlace_19 : decode cX4_isPlace 19 = .ok (.goto 4, 3) := by decide +kernel
theorem dX4_isPlace_22 : decode cX4_isPlace 22 = .ok (.iconst 0, 1) := by decide +kernel
theorem dX4_isPlace_23 : decode cX4_isPlace 23 = .ok (.ireturn, 1) := by decide +kernel
theorem dX4_needKnown_0 : decode cX4_needKnown 0 = .ok (.iload_n 0, 1) := by decide +kernel
theorem dX4_needKnown_1 : decode cX4_needKnown 1 = .ok (.ifCond .ne 13, 3) := by decide +kernel
theorem dX4_needKnown_4 : decode cX4_needKnown 4 = .ok (.new 127, 3) := by decide +kernel
theorem dX4_needKnown_7 : decode cX4_needKnown 7 = .ok (.dup, 1) := by decide +kernel
theorem dX4_needKnown_8 : decode cX4_needKnown 8 = .ok (.ldc 195, 2) := by decide +kernel
theorem dX4_needKnown_10 : decode cX4_needKnown 10 = .ok (.invokespecial 131, 3) := by decide +kernel
theorem dX4_needKnown_13 : decode cX4_needKnown 13 = .ok (.athrow, 1) := by decide +kernel
theorem dX4_needKnown_14 : decode cX4_needKnown 14 = .ok (.return_, 1) := by decide +kernel
theorem dX4_needRange_0 : decode cX4_needRange 0 = .ok (.iload_n 0, 1) := by decide +kernel
theorem dX4_needRange_1 : decode cX4_needRange 1 = .ok (.ifCond .ne 13, 3) := by decide +kernel
theorem dX4_needRange_4 : decode cX4_needRange 4 = .ok (.new 197, 3) := by decide +kernel
theorem dX4_needRange_7 : decode cX4_needRange 7 = .ok (.dup, 1) := by decide +kernel
theorem dX4_needRange_8 : decode cX4_needRange 8 = .ok (.ldc 199, 2) := by decide +kernel
theorem dX4_needRange_10 : decode cX4_needRange 10 = .ok (.invokespecial 201, 3) := by decide +kernel
theorem dX4_needRange_13 : decode cX4_needRange 13 = .ok (.athrow, 1) := by decide +kernel
theorem dX4_needRange_14 : decode cX4_needRange 14 = .ok (.return_, 1) := by decide +kernel
theorem dX4_needState_0 : decode cX4_needState 0 = .ok (.iload_n 0, 1) := by decide +kernel
theorem dX4_needState_1 : decode cX4_needState 1 = .ok (.ifCond .ne 13, 3) := by decide +kernel
theorem dX4_needState_4 : decode cX4_needState 4 = .ok (.new 202, 3) := by decide +kernel
theorem dX4_needState_7 : decode cX4_needState 7 = .ok (.dup, 1) := by decide +kernel
theorem dX4_needState_8 : decode cX4_needState 8 = .ok (.ldc 204, 2) := by decide +kernel
theorem dX4_needState_10 : decode cX4_needState 10 = .ok (.invokespecial 206, 3) := by decide +kernel
theorem dX4_needState_13 : decode cX4_needState 13 = .ok (.athrow, 1) := by decide +kernel
theorem dX4_needState_14 : decode cX4_needState 14 = .ok (.return_, 1) := by decide +kernel
theorem dX4_needRoom_0 : decode cX4_needRoom 0 = .ok (.iload_n 0, 1) := by decide +kernel
theorem dX4_needRoom_1 : decode cX4_needRoom 1 = .ok (.ifCond .ne 13, 3) := by decide +kernel
theorem dX4_needRoom_4 : decode cX4_needRoom 4 = .ok (.new 207, 3) := by decide +kernel
theorem dX4_needRoom_7 : decode cX4_needRoom 7 = .ok (.dup, 1) := by decide +kernel
theorem dX4_needRoom_8 : decode cX4_needRoom 8 = .ok (.ldc 209, 2) := by decide +kernel
theorem dX4_needRoom_10 : decode cX4_needRoom 10 = .ok (.invokespecial 211, 3) := by decide +kernel
theorem dX4_needRoom_13 : decode cX4_needRoom 13 = .ok (.athrow, 1) := by decide +kernel
theorem dX4_needRoom_14 : decode cX4_needRoom 14 = .ok (.return_, 1) := by decide +kernel
theorem dX5_init_0 : decode cX5_init 0 = .ok (.aload_n 0, 1) := by decide +kernel
theorem dX5_init_1 : decode cX5_init 1 = .ok (.invokespecial 1, 3) := by decide +kernel
theorem dX5_init_4 : decode cX5_init 4 = .ok (.aload_n 0, 1) := by decide +kernel
theorem dX5_init_5 : decode cX5_init 5 = .ok (.iconst 1, 1) := by decide +kernel
theorem dX5_init_6 : decode cX5_init 6 = .ok (.putfield 7, 3) := by decide +kernel
theorem dX5_init_9 : decode cX5_init 9 = .ok (.aload_n 0, 1) := by decide +kernel
theorem dX5_init_10 : decode cX5_init 10 = .ok (.bipush 10, 2) := by decide +kernel
theorem dX5_init_12 : decode cX5_init 12 = .ok (.putfield 13, 3) := by decide +kernel
theorem dX5_init_15 : decode cX5_init 15 = .ok (.aload_n 0, 1) := by decide +kernel
theorem dX5_init_16 : decode cX5_init 16 = .ok (.bipush 6, 2) := by decide +kernel
theorem dX5_init_18 : decode cX5_init 18 = .ok (.newarray .int, 2) := by decide +kernel
theorem dX5_init_20 : decode cX5_init 20 = .ok (.putfield 16, 3) := by decide +kernel
theorem dX5_init_23 : decode cX5_init 23 = .ok (.aload_n 0, 1) := by decide +kernel
theorem dX5_init_24 : decode cX5_init 24 = .ok (.bipush 6, 2) := by decide +kernel
theorem dX5_init_26 : decode cX5_init 26 = .ok (.newarray .int, 2) := by decide +kernel
theorem dX5_init_28 : decode cX5_init 28 = .ok (.putfield 20, 3) := by decide +kernel
theorem dX5_init_31 : decode cX5_init 31 = .ok (.aload_n 0, 1) := by decide +kernel
theorem dX5_init_32 : decode cX5_init 32 = .ok (.bipush 10, 2) := by decide +kernel
theorem dX5_init_34 : decode cX5_init 34 = .ok (.newarray .int, 2) := by decide +kernel
theorem dX5_init_36 : decode cX5_init 36 = .ok (.putfield 23, 3) := by decide +kernel
theorem dX5_init_39 : decode cX5_init 39 = .ok (.aload_n 0, 1) := by decide +kernel
theorem dX5_init_40 : decode cX5_init 40 = .ok (.bipush 10, 2) := by decide +kernel
theorem dX5_init_42 : decode cX5_init 42 = .ok (.newarray .int, 2) := by decide +kernel
theorem dX5_init_44 : decode cX5_init 44 = .ok (.putfield 26, 3) := by decide +kernel
theorem dX5_init_47 : decode cX5_init 47 = .ok (.aload_n 0, 1) := by decide +kernel
theorem dX5_init_48 : decode cX5_init 48 = .ok (.bipush 10, 2) := by decide +kernel
theorem dX5_init_50 : decode cX5_init 50 = .ok (.newarray .int, 2) := by decide +kernel
theorem dX5_init_52 : decode cX5_init 52 = .ok (.putfield 29, 3) := by decide +kernel
theorem dX5_init_55 : decode cX5_init 55 = .ok (.aload_n 0, 1) := by decide +kernel
theorem dX5_init_56 : decode cX5_init 56 = .ok (.bipush 48, 2) := by decide +kernel
theorem dX5_init_58 : decode cX5_init 58 = .ok (.newarray .int, 2) := by decide +kernel
theorem dX5_init_60 : decode cX5_init 60 = .ok (.putfield 32, 3) := by decide +kernel
theorem dX5_init_63 : decode cX5_init 63 = .ok (.aload_n 0, 1) := by decide +kernel
theorem dX5_init_64 : decode cX5_init 64 = .ok (.bipush 60, 2) := by decide +kernel
theorem dX5_init_66 : decode cX5_init 66 = .ok (.newarray .int, 2) := by decide +kernel
theorem dX5_init_68 : decode cX5_init 68 = .ok (.putfield 35, 3) := by decide +kernel
theorem dX5_init_71 : decode cX5_init 71 = .ok (.aload_n 0, 1) := by decide +kernel
theorem dX5_init_72 : decode cX5_init 72 = .ok (.bipush 60, 2) := by decide +kernel
theorem dX5_init_74 : decode cX5_init 74 = .ok (.newarray .int, 2) := by decide +kernel
theorem dX5_init_76 : decode cX5_init 76 = .ok (.putfield 38, 3) := by decide +kernel
theorem dX5_init_79 : decode cX5_init 79 = .ok (.aload_n 0, 1) := by decide +kernel
theorem dX5_init_80 : decode cX5_init 80 = .ok (.bipush 60, 2) := by decide +kernel
theorem dX5_init_82 : decode cX5_init 82 = .ok (.newarray .int, 2) := by decide +kernel
theorem dX5_init_84 : decode cX5_init 84 = .ok (.putfield 41, 3) := by decide +kernel
theorem dX5_init_87 : decode cX5_init 87 = .ok (.aload_n 0, 1) := by decide +kernel
theorem dX5_init_88 : decode cX5_init 88 = .ok (.bipush 60, 2) := by decide +kernel
theorem dX5_init_90 : decode cX5_init 90 = .ok (.newarray .int, 2) := by decide +kernel
theorem dX5_init_92 : decode cX5_init 92 = .ok (.putfield 44, 3) := by decide +kernel
theorem dX5_init_95 : decode cX5_init 95 = .ok (.aload_n 0, 1) := by decide +kernel
theorem dX5_init_96 : decode cX5_init 96 = .ok (.bipush 60, 2) := by decide +kernel
theorem dX5_init_98 : decode cX5_init 98 = .ok (.newarray .int, 2) := by decide +kernel
theorem dX5_init_100 : decode cX5_init 100 = .ok (.putfield 47, 3) := by decide +kernel
theorem dX5_init_103 : decode cX5_init 103 = .ok (.aload_n 0, 1) := by decide +kernel
theorem dX5_init_104 : decode cX5_init 104 = .ok (.bipush 60, 2) := by decide +kernel
theorem dX5_init_106 : decode cX5_init 106 = .ok (.newarray .int, 2) := by decide +kernel
theorem dX5_init_108 : decode cX5_init 108 = .ok (.putfield 50, 3) := by decide +kernel
theorem dX5_init_111 : decode cX5_init 111 = .ok (.aload_n 0, 1) := by decide +kernel
theorem dX5_init_112 : decode cX5_init 112 = .ok (.bipush 60, 2) := by decide +kernel
theorem dX5_init_114 : decode cX5_init 114 = .ok (.newarray .int, 2) := by decide +kernel
theorem dX5_init_116 : decode cX5_init 116 = .ok (.putfield 53, 3) := by decide +kernel
theorem dX5_init_119 : decode cX5_init 119 = .ok (.aload_n 0, 1) := by decide +kernel
theorem dX5_init_120 : decode cX5_init 120 = .ok (.bipush 12, 2) := by decide +kernel
theorem dX5_init_122 : decode cX5_init 122 = .ok (.newarray .int, 2) := by decide +kernel
theorem dX5_init_124 : decode cX5_init 124 = .ok (.putfield 56, 3) := by decide +kernel
theorem dX5_init_127 : decode cX5_init 127 = .ok (.aload_n 0, 1) := by decide +kernel
theorem dX5_init_128 : decode cX5_init 128 = .ok (.bipush 12, 2) := by decide +kernel
theorem dX5_init_130 : decode cX5_init 130 = .ok (.newarray .int, 2) := by decide +kernel
theorem dX5_init_132 : decode cX5_init 132 = .ok (.putfield 59, 3) := by decide +kernel
theorem dX5_init_135 : decode cX5_init 135 = .ok (.aload_n 0, 1) := by decide +kernel
theorem dX5_init_136 : decode cX5_init 136 = .ok (.sipush 1440, 3) := by decide +kernel
theorem dX5_init_139 : decode cX5_init 139 = .ok (.newarray .int, 2) := by decide +kernel
theorem dX5_init_141 : decode cX5_init 141 = .ok (.putfield 62, 3) := by decide +kernel
theorem dX5_init_144 : decode cX5_init 144 = .ok (.return_, 1) := by decide +kernel
theorem dX5_thrown_0 : decode cX5_thrown 0 = .ok (.aload_n 0, 1) := by decide +kernel
theorem dX5_thrown_1 : decode cX5_thrown 1 = .ok (.getfield 65, 3) := by decide +kernel
theorem dX5_thrown_4 : decode cX5_thrown 4 = .ok (.ireturn, 1) := by decide +kernel
theorem dX5_throwing_0 : decode cX5_throwing 0 = .ok (.aload_n 0, 1) := by decide +kernel
theorem dX5_throwing_1 : decode cX5_throwing 1 = .ok (.iload_n 1, 1) := by decide +kernel
theorem dX5_throwing_2 : decode cX5_throwing 2 = .ok (.ifCond .eq 7, 3) := by decide +kernel
theorem dX5_throwing_5 : decode cX5_throwing 5 = .ok (.iconst 1, 1) := by decide +kernel
theorem dX5_throwing_6 : decode cX5_throwing 6 = .ok (.goto 20, 3) := by decide +kernel
theorem dX5_throwing_9 : decode cX5_throwing 9 = .ok (.iload_n 2, 1) := by decide +kernel
theorem dX5_throwing_10 : decode cX5_throwing 10 = .ok (.ifCond .eq 7, 3) := by decide +kernel
theorem dX5_throwing_13 : decode cX5_throwing 13 = .ok (.iconst 2, 1) := by decide +kernel
theorem dX5_throwing_14 : decode cX5_throwing 14 = .ok (.goto 12, 3) := by decide +kernel
theorem dX5_throwing_17 : decode cX5_throwing 17 = .ok (.iload_n 3, 1) := by decide +kernel
theorem dX5_throwing_18 : decode cX5_throwing 18 = .ok (.ifCond .eq 7, 3) := by decide +kernel
theorem dX5_throwing_21 : decode cX5_throwing 21 = .ok (.iconst 3, 1) := by decide +kernel
theorem dX5_throwing_22 : decode cX5_throwing 22 = .ok (.goto 4, 3) := by decide +kernel
theorem dX5_throwing_25 : decode cX5_throwing 25 = .ok (.iconst 0, 1) := by decide +kernel
theorem dX5_throwing_26 : decode cX5_throwing 26 = .ok (.putfield 65, 3) := by decide +kernel
theorem dX5_throwing_29 : decode cX5_throwing 29 = .ok (.aload_n 0, 1) := by decide +kernel
theorem dX5_throwing_30 : decode cX5_throwing 30 = .ok (.getfield 65, 3) := by decide +kernel
theorem dX5_throwing_33 : decode cX5_throwing 33 = .ok (.ifCond .le 7, 3) := by decide +kernel
theorem dX5_throwing_36 : decode cX5_throwing 36 = .ok (.iconst 1, 1) := by decide +kernel
theorem dX5_throwing_37 : decode cX5_throwing 37 = .ok (.goto 4, 3) := by decide +kernel
theorem dX5_throwing_40 : decode cX5_throwing 40 = .ok (.iconst 0, 1) := by decide +kernel
theorem dX5_throwing_41 : decode cX5_throwing 41 = .ok (.ireturn, 1) := by decide +kernel
theorem dX5_in_0 : decode cX5_in 0 = .ok (.iload_n 0, 1) := by decide +kernel
theorem dX5_in_1 : decode cX5_in 1 = .ok (.iload_n 1, 1) := by decide +kernel
theorem dX5_in_2 : decode cX5_in 2 = .ok (.if_icmp .lt 12, 3) := by decide +kernel
theorem dX5_in_5 : decode cX5_in 5 = .ok (.iload_n 0, 1) := by decide +kernel
theorem dX5_in_6 : decode cX5_in 6 = .ok (.iload_n 2, 1) := by decide +kernel
theorem dX5_in_7 : decode cX5_in 7 = .ok (.if_icmp .gt 7, 3) := by decide +kernel
theorem dX5_in_10 : decode cX5_in 10 = .ok (.iconst 1, 1) := by decide +kernel
theorem dX5_in_11 : decode cX5_in 11 = .ok (.goto 4, 3) := by decide +kernel
theorem dX5_in_14 : decode cX5_in 14 = .ok (.iconst 0, 1) := by decide +kernel
theorem dX5_in_15 : decode cX5_in 15 = .ok (.ireturn, 1) := by decide +kernel
set_option maxRecDepth 20000 in
theorem ggX5_isSpot_X5_in : GoodIn wsX5_isSpot wsX5_in := goodIn_r _ [4] (by decide +kernel) (by decide +kernel)
set_option maxRecDepth 20000 in
theorem gX5_isSpot_X5_in : GoodIn wsX5_isSpot (va_wsS RX5 68 yX5_in wsX5_in) := goodIn_app (goodIn_of _ (by decide +kernel)) ggX5_isSpot_X5_in
theorem dX5_isSpot_0 : decode cX5_isSpot 0 = .ok (.iload_n 0, 1) := by decide +kernel
theorem dX5_isSpot_1 : decode cX5_isSpot 1 = .ok (.iconst 0, 1) := by decide +kernel
theorem dX5_isSpot_2 : decode cX5_isSpot 2 = .ok (.bipush 99, 2) := by decide +kernel
theorem dX5_isSpot_4 : decode cX5_isSpot 4 = .ok (.invokestatic 68, 3) := by decide +kernel
theorem dX5_isSpot_7 : decode cX5_isSpot 7 = .ok (.ifCond .eq 17, 3) := by decide +kernel
theorem dX5_isSpot_10 : decode cX5_isSpot 10 = .ok (.iload_n 1, 1) := by decide +kernel
theorem dX5_isSpot_11 : decode cX5_isSpot 11 = .ok (.iconst 0, 1) := by decide +kernel
theorem dX5_isSpot_12 : decode cX5_isSpot 12 = .ok (.bipush 99, 2) := by decide +kernel
theorem dX5_isSpot_14 : decode cX5_isSpot 14 = .ok (.invokestatic 68, 3) := by decide +kernel
theorem dX5_isSpot_17 : decode cX5_isSpot 17 = .ok (.ifCond .eq 7, 3) := by decide +kernel
theorem dX5_isSpot_20 : decode cX5_isSpot 20 = .ok (.iconst 1, 1) := by decide +kernel
theorem dX5_isSpot_21 : decode cX5_isSpot 21 = .ok (.goto 4, 3) := by decide +kernel
theorem dX5_isSpot_24 : decode cX5_isSpot 24 = .ok (.iconst 0, 1) := by decide +kernel
theorem dX5_isSpot_25 : decode cX5_isSpot 25 = .ok (.ireturn, 1) := by decide +kernel
set_option maxRecDepth 20000 in
theorem ggX5_station_X5_isSpot : GoodIn wsX5_station wsX5_isSpot := goodIn_r _ [7, 8, 9, 6, 10] (by decide +kernel) (by decide +kernel)
set_option maxRecDepth 20000 in
theorem gX5_station_X5_isSpot : GoodIn wsX5_station (va_wsS RX5 72 yX5_isSpot wsX5_isSpot) := goodIn_app (goodIn_of _ (by decide +kernel)) ggX5_station_X5_isSpot
set_option maxRecDepth 20000 in
theorem ggX5_station_X5_throwing : GoodIn wsX5_station wsX5_throwing := goodIn_r _ [14, 15, 16, 17, 18, 19, 20, 21, 22, 23, 24, 25, 26, 27, 28, 29, 30, 31, 32, 33, 34, 35, 36, 37, 38, 39] (by decide +kernel) (by decide +kernel)
set_option maxRecDepth 20000 in
theorem gX5_station_X5_throwing : GoodIn wsX5_station (wsV RX5 79 RX5 yX5_throwing wsX5_throwing) := goodIn_app (goodIn_of _ (by decide +kernel)) ggX5_station_X5_throwing
theorem dX5_station_0 : decode cX5_station 0 = .ok (.aload_n 0, 1) := by decide +kernel
theorem dX5_station_1 : decode cX5_station 1 = .ok (.iload_n 1, 1) := by decide +kernel
theorem dX5_station_2 : decode cX5_station 2 = .ok (.iload_n 2, 1) := by decide +kernel
theorem dX5_station_3 : decode cX5_station 3 = .ok (.invokestatic 72, 3) := by decide +kernel
theorem dX5_station_6 : decode cX5_station 6 = .ok (.ifCond .ne 7, 3) := by decide +kernel
theorem dX5_station_9 : decode cX5_station 9 = .ok (.iconst 1, 1) := by decide +kernel
theorem dX5_station_10 : decode cX5_station 10 = .ok (.goto 4, 3) := by decide +kernel
theorem dX5_station_13 : decode cX5_station 13 = .ok (.iconst 0, 1) := by decide +kernel
theorem dX5_station_14 : decode cX5_station 14 = .ok (.aload_n 0, 1) := by decide +kernel
theorem dX5_station_15 : decode cX5_station 15 = .ok (.getfield 76, 3) := by decide +kernel
theorem dX5_station_18 : decode cX5_station 18 = .ok (.bipush 6, 2) := by decide +kernel
theorem dX5_station_20 : decode cX5_station 20 = .ok (.if_icmp .ne 7, 3) := by decide +kernel
theorem dX5_station_23 : decode cX5_station 23 = .ok (.iconst 1, 1) := by decide +kernel
theorem dX5_station_24 : decode cX5_station 24 = .ok (.goto 4, 3) := by decide +kernel
theorem dX5_station_27 : decode cX5_station 27 = .ok (.iconst 0, 1) := by decide +kernel
theorem dX5_station_28 : decode cX5_station 28 = .ok (.iconst 0, 1) := by decide +kernel
theorem dX5_station_29 : decode cX5_station 29 = .ok (.invokevirtual 79, 3) := by decide +kernel
theorem dX5_station_32 : decode cX5_station 32 = .ok (.ifCond .eq 5, 3) := by decide +kernel
theorem dX5_station_35 : decode cX5_station 35 = .ok (.iconst 0, 1) := by decide +kernel
theorem dX5_station_36 : decode cX5_station 36 = .ok (.ireturn, 1) := by decide +kernel
theorem dX5_station_37 : decode cX5_station 37 = .ok (.aload_n 0, 1) := by decide +kernel
theorem dX5_station_38 : decode cX5_station 38 = .ok (.getfield 16, 3) := by decide +kernel
theorem dX5_station_41 : decode cX5_station 41 = .ok (.aload_n 0, 1) := by decide +kernel
theorem dX5_station_42 : decode cX5_station 42 = .ok (.getfield 76, 3) := by decide +kernel
theorem dX5_station_45 : decode cX5_station 45 = .ok (.iload_n 1, 1) := by decide +kernel
theorem dX5_station_46 : decode cX5_station 46 = .ok (.iastore, 1) := by decide +kernel
theorem dX5_station_47 : decode cX5_station 47 = .ok (.aload_n 0, 1) := by decide +kernel
theorem dX5_station_48 : decode cX5_station 48 = .ok (.getfield 20, 3) := by decide +kernel
theorem dX5_station_51 : decode cX5_station 51 = .ok (.aload_n 0, 1) := by decide +kernel
theorem dX5_station_52 : decode cX5_station 52 = .ok (.getfield 76, 3) := by decide +kernel
theorem dX5_station_55 : decode cX5_station 55 = .ok (.iload_n 2, 1) := by decide +kernel
theorem dX5_station_56 : decode cX5_station 56 = .ok (.iastore, 1) := by decide +kernel
theorem dX5_station_57 : decode cX5_station 57 = .ok (.aload_n 0, 1) := by decide +kernel
theorem dX5_station_58 : decode cX5_station 58 = .ok (.dup, 1) := by decide +kernel
theorem dX5_station_59 : decode cX5_station 59 = .ok (.getfield 76, 3) := by decide +kernel
theorem dX5_station_62 : decode cX5_station 62 = .ok (.iconst 1, 1) := by decide +kernel
theorem dX5_station_63 : decode cX5_station 63 = .ok (.iadd, 1) := by decide +kernel
theorem dX5_station_64 : decode cX5_station 64 = .ok (.putfield 76, 3) := by decide +kernel
theorem dX5_station_67 : decode cX5_station 67 = .ok (.aload_n 0, 1) := by decide +kernel
theorem dX5_station_68 : decode cX5_station 68 = .ok (.getfield 76, 3) := by decide +kernel
theorem dX5_station_71 : decode cX5_station 71 = .ok (.iconst 1, 1) := by decide +kernel
theorem dX5_station_72 : decode cX5_station 72 = .ok (.isub, 1) := by decide +kernel
theorem dX5_station_73 : decode cX5_station 73 = .ok (.ireturn, 1) := by decide +kernel
set_option maxRecDepth 20000 in
theorem ggX5_area_X5_isSpot : GoodIn wsX5_area wsX5_isSpot := goodIn_r _ [8, 9, 10, 7, 11] (by decide +kernel) (by decide +kernel)
set_option maxRecDepth 20000 in
theorem gX5_area_X5_isSpot : GoodIn wsX5_area (va_wsS RX5 72 yX5_isSpot wsX5_isSpot) := goodIn_app (goodIn_of _ (by decide +kernel)) ggX5_area_X5_isSpot
set_option maxRecDepth 20000 in
theorem ggX5_area_X5_in : GoodIn wsX5_area wsX5_in := goodIn_r _ [11] (by decide +kernel) (by decide +kernel)
set_option maxRecDepth 20000 in
theorem gX5_area_X5_in : GoodIn wsX5_area (va_wsS RX5 68 yX5_in wsX5_in) := goodIn_app (goodIn_of _ (by decide +kernel)) ggX5_area_X5_in
set_option maxRecDepth 20000 in
theorem ggX5_area_X5_throwing : GoodIn wsX5_area wsX5_throwing := goodIn_r _ [15, 16, 17, 18, 19, 20, 21, 22, 23, 24, 25, 26, 27, 28, 29, 30, 31, 32, 33, 34, 35, 36, 37, 38, 39, 40] (by decide +kernel) (by decide +kernel)
set_option maxRecDepth 20000 in
theorem gX5_area_X5_throwing : GoodIn wsX5_area (wsV RX5 79 RX5 yX5_throwing wsX5_throwing) := goodIn_app (goodIn_of _ (by decide +kernel)) ggX5_area_X5_throwing
theorem dX5_area_0 : decode cX5_area 0 = .ok (.aload_n 0, 1) := by decide +kernel
theorem dX5_area_1 : decode cX5_area 1 = .ok (.iload_n 1, 1) := by decide +kernel
theorem dX5_area_2 : decode cX5_area 2 = .ok (.iload_n 2, 1) := by decide +kernel
theorem dX5_area_3 : decode cX5_area 3 = .ok (.invokestatic 72, 3) := by decide +kernel
theorem dX5_area_6 : decode cX5_area 6 = .ok (.ifCond .eq 13, 3) := by decide +kernel
theorem dX5_area_9 : decode cX5_area 9 = .ok (.iload_n 3, 1) := by decide +kernel
theorem dX5_area_10 : decode cX5_area 10 = .ok (.iconst 1, 1) := by decide +kernel
theorem dX5_area_11 : decode cX5_area 11 = .ok (.bipush 50, 2) := by decide +kernel
theorem dX5_area_13 : decode cX5_area 13 = .ok (.invokestatic 68, 3) := by decide +kernel
theorem dX5_area_16 : decode cX5_area 16 = .ok (.ifCond .ne 7, 3) := by decide +kernel
theorem dX5_area_19 : decode cX5_area 19 = .ok (.iconst 1, 1) := by decide +kernel
theorem dX5_area_20 : decode cX5_area 20 = .ok (.goto 4, 3) := by decide +kernel
theorem dX5_area_23 : decode cX5_area 23 = .ok (.iconst 0, 1) := by decide +kernel
theorem dX5_area_24 : decode cX5_area 24 = .ok (.aload_n 0, 1) := by decide +kernel
theorem dX5_area_25 : decode cX5_area 25 = .ok (.getfield 83, 3) := by decide +kernel
theorem dX5_area_28 : decode cX5_area 28 = .ok (.bipush 10, 2) := by decide +kernel
theorem dX5_area_30 : decode cX5_area 30 = .ok (.if_icmp .ne 7, 3) := by decide +kernel
theorem dX5_area_33 : decode cX5_area 33 = .ok (.iconst 1, 1) := by decide +kernel
theorem dX5_area_34 : decode cX5_area 34 = .ok (.goto 4, 3) := by decide +kernel
theorem dX5_area_37 : decode cX5_area 37 = .ok (.iconst 0, 1) := by decide +kernel
theorem dX5_area_38 : decode cX5_area 38 = .ok (.iconst 0, 1) := by decide +kernel
theorem dX5_area_39 : decode cX5_area 39 = .ok (.invokevirtual 79, 3) := by decide +kernel
theorem dX5_area_42 : decode cX5_area 42 = .ok (.ifCond .eq 5, 3) := by decide +kernel
theorem dX5_area_45 : decode cX5_area 45 = .ok (.iconst 0, 1) := by decide +kernel
theorem dX5_area_46 : decode cX5_area 46 = .ok (.ireturn, 1) := by decide +kernel
theorem dX5_area_47 : decode cX5_area 47 = .ok (.aload_n 0, 1) := by decide +kernel
theorem dX5_area_48 : decode cX5_area 48 = .ok (.getfield 23, 3) := by decide +kernel
theorem dX5_area_51 : decode cX5_area 51 = .ok (.aload_n 0, 1) := by decide +kernel
theorem dX5_area_52 : decode cX5_area 52 = .ok (.getfield 83, 3) := by decide +kernel
theorem dX5_area_55 : decode cX5_area 55 = .ok (.iload_n 1, 1) := by decide +kernel
theorem dX5_area_56 : decode cX5_area 56 = .ok (.iastore, 1) := by decide +kernel
theorem dX5_area_57 : decode cX5_area 57 = .ok (.aload_n 0, 1) := by decide +kernel
theorem dX5_area_58 : decode cX5_area 58 = .ok (.getfield 26, 3) := by decide +kernel
theorem dX5_area_61 : decode cX5_area 61 = .ok (.aload_n 0, 1) := by decide +kernel
theorem dX5_area_62 : decode cX5_area 62 = .ok (.getfield 83, 3) := by decide +kernel
theorem dX5_area_65 : decode cX5_area 65 = .ok (.iload_n 2, 1) := by decide +kernel
theorem dX5_area_66 : decode cX5_area 66 = .ok (.iastore, 1) := by decide +kernel
theorem dX5_area_67 : decode cX5_area 67 = .ok (.aload_n 0, 1) := by decide +kernel
theorem dX5_area_68 : decode cX5_area 68 = .ok (.getfield 29, 3) := by decide +kernel
theorem dX5_area_71 : decode cX5_area 71 = .ok (.aload_n 0, 1) := by decide +kernel
theorem dX5_area_72 : decode cX5_area 72 = .ok (.getfield 83, 3) := by decide +kernel
theorem dX5_area_75 : decode cX5_area 75 = .ok (.iload_n 3, 1) := by decide +kernel
theorem dX5_area_76 : decode cX5_area 76 = .ok (.iastore, 1) := by decide +kernel
theorem dX5_area_77 : decode cX5_area 77 = .ok (.aload_n 0, 1) := by decide +kernel
theorem dX5_area_78 : decode cX5_area 78 = .ok (.dup, 1) := by decide +kernel
theorem dX5_area_79 : decode cX5_area 79 = .ok (.getfield 83, 3) := by decide +kernel
theorem dX5_area_82 : decode cX5_area 82 = .ok (.iconst 1, 1) := by decide +kernel
theorem dX5_area_83 : decode cX5_area 83 = .ok (.iadd, 1) := by decide +kernel
theorem dX5_area_84 : decode cX5_area 84 = .ok (.putfield 83, 3) := by decide +kernel
theorem dX5_area_87 : decode cX5_area 87 = .ok (.aload_n 0, 1) := by decide +kernel
theorem dX5_area_88 : decode cX5_area 88 = .ok (.getfield 83, 3) := by decide +kernel
theorem dX5_area_91 : decode cX5_area 91 = .ok (.iconst 1, 1) := by decide +kernel
theorem dX5_area_92 : decode cX5_area 92 = .ok (.isub, 1) := by decide +kernel
theorem dX5_area_93 : decode cX5_area 93 = .ok (.ireturn, 1) := by decide +kernel
theorem dX5_at_0 : decode cX5_at 0 = .ok (.iconst 0, 1) := by decide +kernel
theorem dX5_at_1 : decode cX5_at 1 = .ok (.istore 4, 2) := by decide +kernel
theorem dX5_at_3 : decode cX5_at 3 = .ok (.iconst 0, 1) := by decide +kernel
theorem dX5_at_4 : decode cX5_at 4 = .ok (.istore 5, 2) := by decide +kernel
theorem dX5_at_6 : decode cX5_at 6 = .ok (.iload 5, 2) := by decide +kernel
theorem dX5_at_8 : decode cX5_at 8 = .ok (.aload_n 0, 1) := by decide +kernel
theorem dX5_at_9 : decode cX5_at 9 = .ok (.getfield 86, 3) := by decide +kernel
theorem dX5_at_12 : decode cX5_at 12 = .ok (.if_icmp .ge 41, 3) := by decide +kernel
theorem dX5_at_15 : decode cX5_at 15 = .ok (.iload 4, 2) := by decide +kernel
theorem dX5_at_17 : decode cX5_at 17 = .ok (.iload 5, 2) := by decide +kernel
theorem dX5_at_19 : decode cX5_at 19 = .ok (.iload_n 3, 1) := by decide +kernel
theorem dX5_at_20 : decode cX5_at 20 = .ok (.if_icmp .eq 23, 3) := by decide +kernel
theorem dX5_at_23 : decode cX5_at 23 = .ok (.aload_n 0, 1) := by decide +kernel
theorem dX5_at_24 : decode cX5_at 24 = .ok (.getfield 32, 3) := by decide +kernel
theorem dX5_at_27 : decode cX5_at 27 = .ok (.bipush 12, 2) := by decide +kernel
theorem dX5_at_29 : decode cX5_at 29 = .ok (.iload_n 1, 1) := by decide +kernel
theorem dX5_at_30 : decode cX5_at 30 = .ok (.imul, 1) := by decide +kernel
theorem dX5_at_31 : decode cX5_at 31 = .ok (.iload 5, 2) := by decide +kernel
theorem dX5_at_33 : decode cX5_at 33 = .ok (.iadd, 1) := by decide +kernel
theorem dX5_at_34 : decode cX5_at 34 = .ok (.iaload, 1) := by decide +kernel
theorem dX5_at_35 : decode cX5_at 35 = .ok (.iload_n 2, 1) := by decide +kernel
theorem dX5_at_36 : decode cX5_at 36 = .ok (.if_icmp .ne 7, 3) := by decide +kernel
theorem dX5_at_39 : decode cX5_at 39 = .ok (.iconst 1, 1) := by decide +kernel
theorem dX5_at_40 : decode cX5_at 40 = .ok (.goto 4, 3) := by decide +kernel
theorem dX5_at_43 : decode cX5_at 43 = .ok (.iconst 0, 1) := by decide +kernel
theorem dX5_at_44 : decode cX5_at 44 = .ok (.iadd, 1) := by decide +kernel
theorem dX5_at_45 : decode cX5_at 45 = .ok (.istore 4, 2) := by decide +kernel
theorem dX5_at_47 : decode cX5_at 47 = .ok (.iinc 5 1, 3) := by decide +kernel
theorem dX5_at_50 : decode cX5_at 50 = .ok (.goto (-44), 3) := by decide +kernel
theorem dX5_at_53 : decode cX5_at 53 = .ok (.iload 4, 2) := by decide +kernel
theorem dX5_at_55 : decode cX5_at 55 = .ok (.ireturn, 1) := by decide +kernel
set_option maxRecDepth 20000 in
theorem ggX5_isFull_X5_at : GoodIn wsX5_isFull wsX5_at := goodIn_r _ [5, 6, 7, 8, 9, 10, 11, 12, 13, 14, 15, 16, 17, 18, 19, 20, 21, 22, 23, 24, 25, 26, 27, 28, 29, 30, 31] (by decide +kernel) (by decide +kernel)
set_option maxRecDepth 20000 in
theorem gX5_isFull_X5_at : GoodIn wsX5_isFull (wsV RX5 89 RX5 yX5_at wsX5_at) := goodIn_app (goodIn_of _ (by decide +kernel)) ggX5_isFull_X5_at
theorem dX5_isFull_0 : decode cX5_isFull 0 = .ok (.iconst 0, 1) := by decide +kernel
theorem dX5_isFull_1 : decode cX5_isFull 1 = .ok (.istore_n 2, 1) := by decide +kernel
theorem dX5_isFull_2 : decode cX5_isFull 2 = .ok (.iconst 0, 1) := by decide +kernel
theorem dX5_isFull_3 : decode cX5_isFull 3 = .ok (.istore_n 3, 1) := by decide +kernel
theorem dX5_isFull_4 : decode cX5_isFull 4 = .ok (.iload_n 3, 1) := by decide +kernel
theorem dX5_isFull_5 : decode cX5_isFull 5 = .ok (.iconst 4, 1) := by decide +kernel
theorem dX5_isFull_6 : decode cX5_isFull 6 = .ok (.if_icmp .ge 30, 3) := by decide +kernel
theorem dX5_isFull_9 : decode cX5_isFull 9 = .ok (.iload_n 2, 1) := by decide +kernel
theorem dX5_isFull_10 : decode cX5_isFull 10 = .ok (.ifCond .ne 14, 3) := by decide +kernel
theorem dX5_isFull_13 : decode cX5_isFull 13 = .ok (.aload_n 0, 1) := by decide +kernel
theorem dX5_isFull_14 : decode cX5_isFull 14 = .ok (.iload_n 3, 1) := by decide +kernel
theorem dX5_isFull_15 : decode cX5_isFull 15 = .ok (.iload_n 1, 1) := by decide +kernel
theorem dX5_isFull_16 : decode cX5_isFull 16 = .ok (.iconst (-1), 1) := by decide +kernel
theorem dX5_isFull_17 : decode cX5_isFull 17 = .ok (.invokevirtual 89, 3) := by decide +kernel
theorem dX5_isFull_20 : decode cX5_isFull 20 = .ok (.iconst 4, 1) := by decide +kernel
theorem dX5_isFull_21 : decode cX5_isFull 21 = .ok (.if_icmp .lt 7, 3) := by decide +kernel
theorem dX5_isFull_24 : decode cX5_isFull 24 = .ok (.iconst 1, 1) := by decide +kernel
theorem dX5_isFull_25 : decode cX5_isFull 25 = .ok (.goto 4, 3) := by decide +kernel
theorem dX5_isFull_28 : decode cX5_isFull 28 = .ok (.iconst 0, 1) := by decide +kernel
theorem dX5_isFull_29 : decode cX5_isFull 29 = .ok (.istore_n 2, 1) := by decide +kernel
theorem dX5_isFull_30 : decode cX5_isFull 30 = .ok (.iinc 3 1, 3) := by decide +kernel
theorem dX5_isFull_33 : decode cX5_isFull 33 = .ok (.goto (-29), 3) := by decide +kernel
theorem dX5_isFull_36 : decode cX5_isFull 36 = .ok (.iload_n 2, 1) := by decide +kernel
theorem dX5_isFull_37 : decode cX5_isFull 37 = .ok (.ireturn, 1) := by decide +kernel
set_option maxRecDepth 20000 in
theorem ggX5_unit_X5_in : GoodIn wsX5_unit wsX5_in := goodIn_r _ [7] (by decide +kernel) (by decide +kernel)
set_option maxRecDepth 20000 in
theorem gX5_unit_X5_in : GoodIn wsX5_unit (va_wsS RX5 68 yX5_in wsX5_in) := goodIn_app (goodIn_of _ (by decide +kernel)) ggX5_unit_X5_in
set_option maxRecDepth 20000 in
theorem ggX5_unit_X5_isFull : GoodIn wsX5_unit wsX5_isFull := goodIn_r _ [11, 12, 13, 14, 6, 15, 2, 3, 21, 22, 23, 24, 25, 26, 27, 28, 29, 30, 31, 32, 33, 34, 35, 36, 37, 38, 39, 40, 41, 42, 43, 44] (by decide +kernel) (by decide +kernel)
set_option maxRecDepth 20000 in
theorem gX5_unit_X5_isFull : GoodIn wsX5_unit (wsV RX5 93 RX5 yX5_isFull wsX5_isFull) := goodIn_app (goodIn_of _ (by decide +kernel)) ggX5_unit_X5_isFull
set_option maxRecDepth 20000 in
theorem ggX5_unit_X5_throwing : GoodIn wsX5_unit wsX5_throwing := goodIn_r _ [19, 20, 21, 22, 23, 24, 25, 26, 27, 28, 29, 30, 31, 32, 33, 34, 35, 36, 37, 38, 39, 40, 41, 42, 43, 44] (by decide +kernel) (by decide +kernel)
set_option maxRecDepth 20000 in
theorem gX5_unit_X5_throwing : GoodIn wsX5_unit (wsV RX5 79 RX5 yX5_throwing wsX5_throwing) := goodIn_app (goodIn_of _ (by decide +kernel)) ggX5_unit_X5_throwing
theorem dX5_unit_0 : decode cX5_unit 0 = .ok (.iload_n 1, 1) := by decide +kernel
theorem dX5_unit_1 : decode cX5_unit 1 = .ok (.iconst 0, 1) := by decide +kernel
theorem dX5_unit_2 : decode cX5_unit 2 = .ok (.aload_n 0, 1) := by decide +kernel
theorem dX5_unit_3 : decode cX5_unit 3 = .ok (.getfield 76, 3) := by decide +kernel
theorem dX5_unit_6 : decode cX5_unit 6 = .ok (.iconst 1, 1) := by decide +kernel
theorem dX5_unit_7 : decode cX5_unit 7 = .ok (.isub, 1) := by decide +kernel
theorem dX5_unit_8 : decode cX5_unit 8 = .ok (.invokestatic 68, 3) := by decide +kernel
theorem dX5_unit_11 : decode cX5_unit 11 = .ok (.ifCond .ne 7, 3) := by decide +kernel
theorem dX5_unit_14 : decode cX5_unit 14 = .ok (.iconst 1, 1) := by decide +kernel
theorem dX5_unit_15 : decode cX5_unit 15 = .ok (.goto 4, 3) := by decide +kernel
theorem dX5_unit_18 : decode cX5_unit 18 = .ok (.iconst 0, 1) := by decide +kernel
theorem dX5_unit_19 : decode cX5_unit 19 = .ok (.istore_n 2, 1) := by decide +kernel
theorem dX5_unit_20 : decode cX5_unit 20 = .ok (.aload_n 0, 1) := by decide +kernel
theorem dX5_unit_21 : decode cX5_unit 21 = .ok (.iload_n 2, 1) := by decide +kernel
theorem dX5_unit_22 : decode cX5_unit 22 = .ok (.iload_n 2, 1) := by decide +kernel
theorem dX5_unit_23 : decode cX5_unit 23 = .ok (.ifCond .ne 15, 3) := by decide +kernel
theorem dX5_unit_26 : decode cX5_unit 26 = .ok (.aload_n 0, 1) := by decide +kernel
theorem dX5_unit_27 : decode cX5_unit 27 = .ok (.iload_n 1, 1) := by decide +kernel
theorem dX5_unit_28 : decode cX5_unit 28 = .ok (.invokevirtual 93, 3) := by decide +kernel
theorem dX5_unit_31 : decode cX5_unit 31 = .ok (.ifCond .eq 7, 3) := by decide +kernel
theorem dX5_unit_34 : decode cX5_unit 34 = .ok (.iconst 1, 1) := by decide +kernel
theorem dX5_unit_35 : decode cX5_unit 35 = .ok (.goto 4, 3) := by decide +kernel
theorem dX5_unit_38 : decode cX5_unit 38 = .ok (.iconst 0, 1) := by decide +kernel
theorem dX5_unit_39 : decode cX5_unit 39 = .ok (.aload_n 0, 1) := by decide +kernel
theorem dX5_unit_40 : decode cX5_unit 40 = .ok (.getfield 86, 3) := by decide +kernel
theorem dX5_unit_43 : decode cX5_unit 43 = .ok (.bipush 12, 2) := by decide +kernel
theorem dX5_unit_45 : decode cX5_unit 45 = .ok (.if_icmp .ne 7, 3) := by decide +kernel
theorem dX5_unit_48 : decode cX5_unit 48 = .ok (.iconst 1, 1) := by decide +kernel
theorem dX5_unit_49 : decode cX5_unit 49 = .ok (.goto 4, 3) := by decide +kernel
theorem dX5_unit_52 : decode cX5_unit 52 = .ok (.iconst 0, 1) := by decide +kernel
theorem dX5_unit_53 : decode cX5_unit 53 = .ok (.invokevirtual 79, 3) := by decide +kernel
theorem dX5_unit_56 : decode cX5_unit 56 = .ok (.ifCond .eq 5, 3) := by decide +kernel
theorem dX5_unit_59 : decode cX5_unit 59 = .ok (.iconst 0, 1) := by decide +kernel
theorem dX5_unit_60 : decode cX5_unit 60 = .ok (.ireturn, 1) := by decide +kernel
theorem dX5_unit_61 : decode cX5_unit 61 = .ok (.iconst 0, 1) := by decide +kernel
theorem dX5_unit_62 : decode cX5_unit 62 = .ok (.istore_n 3, 1) := by decide +kernel
theorem dX5_unit_63 : decode cX5_unit 63 = .ok (.iload_n 3, 1) := by decide +kernel
theorem dX5_unit_64 : decode cX5_unit 64 = .ok (.iconst 4, 1) := by decide +kernel
theorem dX5_unit_65 : decode cX5_unit 65 = .ok (.if_icmp .ge 24, 3) := by decide +kernel
theorem dX5_unit_68 : decode cX5_unit 68 = .ok (.aload_n 0, 1) := by decide +kernel
theorem dX5_unit_69 : decode cX5_unit 69 = .ok (.getfield 32, 3) := by decide +kernel
theorem dX5_unit_72 : decode cX5_unit 72 = .ok (.bipush 12, 2) := by decide +kernel
theorem dX5_unit_74 : decode cX5_unit 74 = .ok (.iload_n 3, 1) := by decide +kernel
theorem dX5_unit_75 : decode cX5_unit 75 = .ok (.imul, 1) := by decide +kernel
theorem dX5_unit_76 : decode cX5_unit 76 = .ok (.aload_n 0, 1) := by decide +kernel
theorem dX5_unit_77 : decode cX5_unit 77 = .ok (.getfield 86, 3) := by decide +kernel
theorem dX5_unit_80 : decode cX5_unit 80 = .ok (.iadd, 1) := by decide +kernel
theorem dX5_unit_81 : decode cX5_unit 81 = .ok (.iload_n 1, 1) := by decide +kernel
theorem dX5_unit_82 : decode cX5_unit 82 = .ok (.iastore, 1) := by decide +kernel
theorem dX5_unit_83 : decode cX5_unit 83 = .ok (.iinc 3 1, 3) := by decide +kernel
theorem dX5_unit_86 : decode cX5_unit 86 = .ok (.goto (-23), 3) := by decide +kernel
theorem dX5_unit_89 : decode cX5_unit 89 = .ok (.aload_n 0, 1) := by decide +kernel
theorem dX5_unit_90 : decode cX5_unit 90 = .ok (.dup, 1) := by decide +kernel
theorem dX5_unit_91 : decode cX5_unit 91 = .ok (.getfield 86, 3) := by decide +kernel
theorem dX5_unit_94 : decode cX5_unit 94 = .ok (.iconst 1, 1) := by decide +kernel
theorem dX5_unit_95 : decode cX5_unit 95 = .ok (.iadd, 1) := by decide +kernel
theorem dX5_unit_96 : decode cX5_unit 96 = .ok (.putfield 86, 3) := by decide +kernel
theorem dX5_unit_99 : decode cX5_unit 99 = .ok (.aload_n 0, 1) := by decide +kernel
theorem dX5_unit_100 : decode cX5_unit 100 = .ok (.getfield 86, 3) := by decide +kernel
theorem dX5_unit_103 : decode cX5_unit 103 = .ok (.iconst 1, 1) := by decide +kernel
theorem dX5_unit_104 : decode cX5_unit 104 = .ok (.isub, 1) := by decide +kernel
theorem dX5_unit_105 : decode cX5_unit 105 = .ok (.ireturn, 1) := by decide +kernel
set_option maxRecDepth 20000 in
theorem ggX5_change_X5_in : GoodIn wsX5_change wsX5_in := goodIn_r _ [7] (by decide +kernel) (by decide +kernel)
set_option maxRecDepth 20000 in
theorem gX5_change_X5_in : GoodIn wsX5_change (va_wsS RX5 68 yX5_in wsX5_in) := goodIn_app (goodIn_of _ (by decide +kernel)) ggX5_change_X5_in
set_option maxRecDepth 20000 in
theorem ggX5_change_X5_at : GoodIn wsX5_change wsX5_at := goodIn_r _ [11, 1, 3, 17, 18, 19, 20, 21, 22, 23, 24, 25, 26, 27, 28, 29, 30, 31, 32, 33, 34, 35, 36, 37, 38, 39, 40] (by decide +kernel) (by decide +kernel)
set_option maxRecDepth 20000 in
theorem gX5_change_X5_at : GoodIn wsX5_change (wsV RX5 89 RX5 yX5_at wsX5_at) := goodIn_app (goodIn_of _ (by decide +kernel)) ggX5_change_X5_at
set_option maxRecDepth 20000 in
theorem ggX5_change_X5_throwing : GoodIn wsX5_change wsX5_throwing := goodIn_r _ [15, 16, 17, 18, 19, 20, 21, 22, 23, 24, 25, 26, 27, 28, 29, 30, 31, 32, 33, 34, 35, 36, 37, 38, 39, 40] (by decide +kernel) (by decide +kernel)
set_option maxRecDepth 20000 in
theorem gX5_change_X5_throwing : GoodIn wsX5_change (wsV RX5 79 RX5 yX5_throwing wsX5_throwing) := goodIn_app (goodIn_of _ (by decide +kernel)) ggX5_change_X5_throwing
theorem dX5_change_0 : decode cX5_change 0 = .ok (.iload_n 1, 1) := by decide +kernel
theorem dX5_change_1 : decode cX5_change 1 = .ok (.iconst 1, 1) := by decide +kernel
theorem dX5_change_2 : decode cX5_change 2 = .ok (.iconst 3, 1) := by decide +kernel
theorem dX5_change_3 : decode cX5_change 3 = .ok (.invokestatic 68, 3) := by decide +kernel
theorem dX5_change_6 : decode cX5_change 6 = .ok (.ifCond .eq 31, 3) := by decide +kernel
theorem dX5_change_9 : decode cX5_change 9 = .ok (.iload_n 2, 1) := by decide +kernel
theorem dX5_change_10 : decode cX5_change 10 = .ok (.iconst 0, 1) := by decide +kernel
theorem dX5_change_11 : decode cX5_change 11 = .ok (.aload_n 0, 1) := by decide +kernel
theorem dX5_change_12 : decode cX5_change 12 = .ok (.getfield 86, 3) := by decide +kernel
theorem dX5_change_15 : decode cX5_change 15 = .ok (.iconst 1, 1) := by decide +kernel
theorem dX5_change_16 : decode cX5_change 16 = .ok (.isub, 1) := by decide +kernel
theorem dX5_change_17 : decode cX5_change 17 = .ok (.invokestatic 68, 3) := by decide +kernel
theorem dX5_change_20 : decode cX5_change 20 = .ok (.ifCond .eq 17, 3) := by decide +kernel
theorem dX5_change_23 : decode cX5_change 23 = .ok (.iload_n 3, 1) := by decide +kernel
theorem dX5_change_24 : decode cX5_change 24 = .ok (.iconst (-1), 1) := by decide +kernel
theorem dX5_change_25 : decode cX5_change 25 = .ok (.aload_n 0, 1) := by decide +kernel
theorem dX5_change_26 : decode cX5_change 26 = .ok (.getfield 76, 3) := by decide +kernel
theorem dX5_change_29 : decode cX5_change 29 = .ok (.iconst 1, 1) := by decide +kernel
theorem dX5_change_30 : decode cX5_change 30 = .ok (.isub, 1) := by decide +kernel
theorem dX5_change_31 : decode cX5_change 31 = .ok (.invokestatic 68, 3) := by decide +kernel
theorem dX5_change_34 : decode cX5_change 34 = .ok (.ifCond .ne 7, 3) := by decide +kernel
theorem dX5_change_37 : decode cX5_change 37 = .ok (.iconst 1, 1) := by decide +kernel
theorem dX5_change_38 : decode cX5_change 38 = .ok (.goto 4, 3) := by decide +kernel
theorem dX5_change_41 : decode cX5_change 41 = .ok (.iconst 0, 1) := by decide +kernel
theorem dX5_change_42 : decode cX5_change 42 = .ok (.istore 4, 2) := by decide +kernel
theorem dX5_change_44 : decode cX5_change 44 = .ok (.aload_n 0, 1) := by decide +kernel
theorem dX5_change_45 : decode cX5_change 45 = .ok (.iload 4, 2) := by decide +kernel
theorem dX5_change_47 : decode cX5_change 47 = .ok (.iload 4, 2) := by decide +kernel
theorem dX5_change_49 : decode cX5_change 49 = .ok (.ifCond .ne 22, 3) := by decide +kernel
theorem dX5_change_52 : decode cX5_change 52 = .ok (.iload_n 3, 1) := by decide +kernel
theorem dX5_change_53 : decode cX5_change 53 = .ok (.ifCond .lt 18, 3) := by decide +kernel
theorem dX5_change_56 : decode cX5_change 56 = .ok (.aload_n 0, 1) := by decide +kernel
theorem dX5_change_57 : decode cX5_change 57 = .ok (.iload_n 1, 1) := by decide +kernel
theorem dX5_change_58 : decode cX5_change 58 = .ok (.iload_n 3, 1) := by decide +kernel
theorem dX5_change_59 : decode cX5_change 59 = .ok (.iload_n 2, 1) := by decide +kernel
theorem dX5_change_60 : decode cX5_change 60 = .ok (.invokevirtual 89, 3) := by decide +kernel
theorem dX5_change_63 : decode cX5_change 63 = .ok (.iconst 4, 1) := by decide +kernel
theorem dX5_change_64 : decode cX5_change 64 = .ok (.if_icmp .lt 7, 3) := by decide +kernel
theorem dX5_change_67 : decode cX5_change 67 = .ok (.iconst 1, 1) := by decide +kernel
theorem dX5_change_68 : decode cX5_change 68 = .ok (.goto 4, 3) := by decide +kernel
theorem dX5_change_71 : decode cX5_change 71 = .ok (.iconst 0, 1) := by decide +kernel
theorem dX5_change_72 : decode cX5_change 72 = .ok (.iconst 0, 1) := by decide +kernel
theorem dX5_change_73 : decode cX5_change 73 = .ok (.invokevirtual 79, 3) := by decide +kernel
theorem dX5_change_76 : decode cX5_change 76 = .ok (.ifCond .eq 4, 3) := by decide +kernel
theorem dX5_change_79 : decode cX5_change 79 = .ok (.return_, 1) := by decide +kernel
theorem dX5_change_80 : decode cX5_change 80 = .ok (.aload_n 0, 1) := by decide +kernel
theorem dX5_change_81 : decode cX5_change 81 = .ok (.getfield 32, 3) := by decide +kernel
theorem dX5_change_84 : decode cX5_change 84 = .ok (.bipush 12, 2) := by decide +kernel
theorem dX5_change_86 : decode cX5_change 86 = .ok (.iload_n 1, 1) := by decide +kernel
theorem dX5_change_87 : decode cX5_change 87 = .ok (.imul, 1) := by decide +kernel
theorem dX5_change_88 : decode cX5_change 88 = .ok (.iload_n 2, 1) := by decide +kernel
theorem dX5_change_89 : decode cX5_change 89 = .ok (.iadd, 1) := by decide +kernel
theorem dX5_change_90 : decode cX5_change 90 = .ok (.iload_n 3, 1) := by decide +kernel
theorem dX5_change_91 : decode cX5_change 91 = .ok (.iastore, 1) := by decide +kernel
theorem dX5_change_92 : decode cX5_change 92 = .ok (.return_, 1) := by decide +kernel
set_option maxRecDepth 20000 in
theorem ggX5_rules_X5_in : GoodIn wsX5_rules wsX5_in := goodIn_r _ [6] (by decide +kernel) (by decide +kernel)
set_option maxRecDepth 20000 in
theorem gX5_rules_X5_in : GoodIn wsX5_rules (va_wsS RX5 68 yX5_in wsX5_in) := goodIn_app (goodIn_of _ (by decide +kernel)) ggX5_rules_X5_in
set_option maxRecDepth 20000 in
theorem ggX5_rules_X5_throwing : GoodIn wsX5_rules wsX5_throwing := goodIn_r _ [10, 11, 12, 13, 14, 15, 16, 17, 18, 19, 20, 21, 22, 23, 24, 25, 26, 27, 28, 29, 30, 31, 32, 33, 34, 35] (by decide +kernel) (by decide +kernel)
set_option maxRecDepth 20000 in
theorem gX5_rules_X5_throwing : GoodIn wsX5_rules (wsV RX5 79 RX5 yX5_throwing wsX5_throwing) := goodIn_app (goodIn_of _ (by decide +kernel)) ggX5_rules_X5_throwing
theorem dX5_rules_0 : decode cX5_rules 0 = .ok (.aload_n 0, 1) := by decide +kernel
theorem dX5_rules_1 : decode cX5_rules 1 = .ok (.iload_n 1, 1) := by decide +kernel
theorem dX5_rules_2 : decode cX5_rules 2 = .ok (.iconst 1, 1) := by decide +kernel
theorem dX5_rules_3 : decode cX5_rules 3 = .ok (.bipush 9, 2) := by decide +kernel
theorem dX5_rules_5 : decode cX5_rules 5 = .ok (.invokestatic 68, 3) := by decide +kernel
theorem dX5_rules_8 : decode cX5_rules 8 = .ok (.ifCond .eq 14, 3) := by decide +kernel
theorem dX5_rules_11 : decode cX5_rules 11 = .ok (.iload_n 2, 1) := by decide +kernel
theorem dX5_rules_12 : decode cX5_rules 12 = .ok (.iconst 0, 1) := by decide +kernel
theorem dX5_rules_13 : decode cX5_rules 13 = .ok (.sipush 1000, 3) := by decide +kernel
theorem dX5_rules_16 : decode cX5_rules 16 = .ok (.invokestatic 68, 3) := by decide +kernel
theorem dX5_rules_19 : decode cX5_rules 19 = .ok (.ifCond .ne 7, 3) := by decide +kernel
theorem dX5_rules_22 : decode cX5_rules 22 = .ok (.iconst 1, 1) := by decide +kernel
theorem dX5_rules_23 : decode cX5_rules 23 = .ok (.goto 4, 3) := by decide +kernel
theorem dX5_rules_26 : decode cX5_rules 26 = .ok (.iconst 0, 1) := by decide +kernel
theorem dX5_rules_27 : decode cX5_rules 27 = .ok (.iconst 0, 1) := by decide +kernel
theorem dX5_rules_28 : decode cX5_rules 28 = .ok (.iconst 0, 1) := by decide +kernel
theorem dX5_rules_29 : decode cX5_rules 29 = .ok (.invokevirtual 79, 3) := by decide +kernel
theorem dX5_rules_32 : decode cX5_rules 32 = .ok (.ifCond .eq 4, 3) := by decide +kernel
theorem dX5_rules_35 : decode cX5_rules 35 = .ok (.return_, 1) := by decide +kernel
theorem dX5_rules_36 : decode cX5_rules 36 = .ok (.aload_n 0, 1) := by decide +kernel
theorem dX5_rules_37 : decode cX5_rules 37 = .ok (.iload_n 1, 1) := by decide +kernel
theorem dX5_rules_38 : decode cX5_rules 38 = .ok (.putfield 7, 3) := by decide +kernel
theorem dX5_rules_41 : decode cX5_rules 41 = .ok (.aload_n 0, 1) := by decide +kernel
theorem dX5_rules_42 : decode cX5_rules 42 = .ok (.iload_n 2, 1) := by decide +kernel
theorem dX5_rules_43 : decode cX5_rules 43 = .ok (.putfield 13, 3) := by decide +kernel
theorem dX5_rules_46 : decode cX5_rules 46 = .ok (.return_, 1) := by decide +kernel
theorem dX5_mix_0 : decode cX5_mix 0 = .ok (.iload_n 0, 1) := by decide +kernel
theorem dX5_mix_1 : decode cX5_mix 1 = .ok (.iload_n 0, 1) := by decide +kernel
theorem dX5_mix_2 : decode cX5_mix 2 = .ok (.bipush 15, 2) := by decide +kernel
theorem dX5_mix_4 : decode cX5_mix 4 = .ok (.iushr, 1) := by decide +kernel
theorem dX5_mix_5 : decode cX5_mix 5 = .ok (.ixor, 1) := by decide +kernel
theorem dX5_mix_6 : decode cX5_mix 6 = .ok (.istore_n 1, 1) := by decide +kernel
theorem dX5_mix_7 : decode cX5_mix 7 = .ok (.iload_n 1, 1) := by decide +kernel
theorem dX5_mix_8 : decode cX5_mix 8 = .ok (.ldc 97, 2) := by decide +kernel
theorem dX5_mix_10 : decode cX5_mix 10 = .ok (.imul, 1) := by decide +kernel
theorem dX5_mix_11 : decode cX5_mix 11 = .ok (.istore_n 1, 1) := by decide +kernel
theorem dX5_mix_12 : decode cX5_mix 12 = .ok (.iload_n 1, 1) := by decide +kernel
theorem dX5_mix_13 : decode cX5_mix 13 = .ok (.iload_n 1, 1) := by decide +kernel
theorem dX5_mix_14 : decode cX5_mix 14 = .ok (.bipush 13, 2) := by decide +kernel
theorem dX5_mix_16 : decode cX5_mix 16 = .ok (.iushr, 1) := by decide +kernel
theorem dX5_mix_17 : decode cX5_mix 17 = .ok (.ixor, 1) := by decide +kernel
theorem dX5_mix_18 : decode cX5_mix 18 = .ok (.istore_n 1, 1) := by decide +kernel
theorem dX5_mix_19 : decode cX5_mix 19 = .ok (.iload_n 1, 1) := by decide +kernel
theorem dX5_mix_20 : decode cX5_mix 20 = .ok (.ldc 98, 2) := by decide +kernel
theorem dX5_mix_22 : decode cX5_mix 22 = .ok (.imul, 1) := by decide +kernel
theorem dX5_mix_23 : decode cX5_mix 23 = .ok (.istore_n 1, 1) := by decide +kernel
theorem dX5_mix_24 : decode cX5_mix 24 = .ok (.iload_n 1, 1) := by decide +kernel
theorem dX5_mix_25 : decode cX5_mix 25 = .ok (.iload_n 1, 1) := by decide +kernel
theorem dX5_mix_26 : decode cX5_mix 26 = .ok (.bipush 16, 2) := by decide +kernel
theorem dX5_mix_28 : decode cX5_mix 28 = .ok (.iushr, 1) := by decide +kernel
theorem dX5_mix_29 : decode cX5_mix 29 = .ok (.ixor, 1) := by decide +kernel
theorem dX5_mix_30 : decode cX5_mix 30 = .ok (.ireturn, 1) := by decide +kernel
theorem dX5_areaOf_0 : decode cX5_areaOf 0 = .ok (.iconst 0, 1) := by decide +kernel
theorem dX5_areaOf_1 : decode cX5_areaOf 1 = .ok (.istore_n 2, 1) := by decide +kernel
theorem dX5_areaOf_2 : decode cX5_areaOf 2 = .ok (.iconst 0, 1) := by decide +kernel
theorem dX5_areaOf_3 : decode cX5_areaOf 3 = .ok (.istore_n 3, 1) := by decide +kernel
theorem dX5_areaOf_4 : decode cX5_areaOf 4 = .ok (.iload_n 3, 1) := by decide +kernel
theorem dX5_areaOf_5 : decode cX5_areaOf 5 = .ok (.aload_n 0, 1) := by decide +kernel
theorem dX5_areaOf_6 : decode cX5_areaOf 6 = .ok (.getfield 83, 3) := by decide +kernel
theorem dX5_areaOf_9 : decode cX5_areaOf 9 = .ok (.if_icmp .ge 18, 3) := by decide +kernel
theorem dX5_areaOf_12 : decode cX5_areaOf 12 = .ok (.iload_n 2, 1) := by decide +kernel
theorem dX5_areaOf_13 : decode cX5_areaOf 13 = .ok (.aload_n 0, 1) := by decide +kernel
theorem dX5_areaOf_14 : decode cX5_areaOf 14 = .ok (.getfield 29, 3) := by decide +kernel
theorem dX5_areaOf_17 : decode cX5_areaOf 17 = .ok (.iload_n 3, 1) := by decide +kernel
theorem dX5_areaOf_18 : decode cX5_areaOf 18 = .ok (.iaload, 1) := by decide +kernel
theorem dX5_areaOf_19 : decode cX5_areaOf 19 = .ok (.iadd, 1) := by decide +kernel
theorem dX5_areaOf_20 : decode cX5_areaOf 20 = .ok (.istore_n 2, 1) := by decide +kernel
theorem dX5_areaOf_21 : decode cX5_areaOf 21 = .ok (.iinc 3 1, 3) := by decide +kernel
theorem dX5_areaOf_24 : decode cX5_areaOf 24 = .ok (.goto (-20), 3) := by decide +kernel
theorem dX5_areaOf_27 : decode cX5_areaOf 27 = .ok (.iload_n 1, 1) := by decide +kernel
theorem dX5_areaOf_28 : decode cX5_areaOf 28 = .ok (.iload_n 2, 1) := by decide +kernel
theorem dX5_areaOf_29 : decode cX5_areaOf 29 = .ok (.irem, 1) := by decide +kernel
theorem dX5_areaOf_30 : decode cX5_areaOf 30 = .ok (.istore_n 3, 1) := by decide +kernel
theorem dX5_areaOf_31 : decode cX5_areaOf 31 = .ok (.iconst 0, 1) := by decide +kernel
theorem dX5_areaOf_32 : decode cX5_areaOf 32 = .ok (.istore 4, 2) := by decide +kernel
theorem dX5_areaOf_34 : decode cX5_areaOf 34 = .ok (.iload_n 3, 1) := by decide +kernel
theorem dX5_areaOf_35 : decode cX5_areaOf 35 = .ok (.aload_n 0, 1) := by decide +kernel
theorem dX5_areaOf_36 : decode cX5_areaOf 36 = .ok (.getfield 29, 3) := by decide +kernel
theorem dX5_areaOf_39 : decode cX5_areaOf 39 = .ok (.iload 4, 2) := by decide +kernel
theorem dX5_areaOf_41 : decode cX5_areaOf 41 = .ok (.iaload, 1) := by decide +kernel
theorem dX5_areaOf_42 : decode cX5_areaOf 42 = .ok (.if_icmp .lt 19, 3) := by decide +kernel
theorem dX5_areaOf_45 : decode cX5_areaOf 45 = .ok (.iload_n 3, 1) := by decide +kernel
theorem dX5_areaOf_46 : decode cX5_areaOf 46 = .ok (.aload_n 0, 1) := by decide +kernel
theorem dX5_areaOf_47 : decode cX5_areaOf 47 = .ok (.getfield 29, 3) := by decide +kernel
theorem dX5_areaOf_50 : decode cX5_areaOf 50 = .ok (.iload 4, 2) := by decide +kernel
theorem dX5_areaOf_52 : decode cX5_areaOf 52 = .ok (.iaload, 1) := by decide +kernel
theorem dX5_areaOf_53 : decode cX5_areaOf 53 = .ok (.isub, 1) := by decide +kernel
theorem dX5_areaOf_54 : decode cX5_areaOf 54 = .ok (.istore_n 3, 1) := by decide +kernel
theorem dX5_areaOf_55 : decode cX5_areaOf 55 = .ok (.iinc 4 1, 3) := by decide +kernel
theorem dX5_areaOf_58 : decode cX5_areaOf 58 = .ok (.goto (-24), 3) := by decide +kernel
theorem dX5_areaOf_61 : decode cX5_areaOf 61 = .ok (.iload 4, 2) := by decide +kernel
theorem dX5_areaOf_63 : decode cX5_areaOf 63 = .ok (.ireturn, 1) := by decide +kernel
set_option maxRecDepth 20000 in
theorem ggX5_draw_X5_mix : GoodIn wsX5_draw wsX5_mix := goodIn_r _ [13, 14, 15] (by decide +kernel) (by decide +kernel)
set_option maxRecDepth 20000 in
theorem gX5_draw_X5_mix : GoodIn wsX5_draw (va_wsS RX5 103 yX5_mix wsX5_mix) := goodIn_app (goodIn_of _ (by decide +kernel)) ggX5_draw_X5_mix
set_option maxRecDepth 20000 in
theorem ggX5_draw_X5_areaOf : GoodIn wsX5_draw wsX5_areaOf := goodIn_r _ [19, 20, 21, 22, 23, 24, 25, 26, 27, 28, 29, 30, 31, 32, 33, 34, 35, 36, 37, 38, 39, 40, 41, 42, 43, 44, 45] (by decide +kernel) (by decide +kernel)
set_option maxRecDepth 20000 in
theorem gX5_draw_X5_areaOf : GoodIn wsX5_draw (wsV RX5 107 RX5 yX5_areaOf wsX5_areaOf) := goodIn_app (goodIn_of _ (by decide +kernel)) ggX5_draw_X5_areaOf
theorem dX5_draw_0 : decode cX5_draw 0 = .ok (.aload_n 0, 1) := by decide +kernel
theorem dX5_draw_1 : decode cX5_draw 1 = .ok (.iload_n 3, 1) := by decide +kernel
theorem dX5_draw_2 : decode cX5_draw 2 = .ok (.putfield 99, 3) := by decide +kernel
theorem dX5_draw_5 : decode cX5_draw 5 = .ok (.iconst 0, 1) := by decide +kernel
theorem dX5_draw_6 : decode cX5_draw 6 = .ok (.istore 4, 2) := by decide +kernel
theorem dX5_draw_8 : decode cX5_draw 8 = .ok (.iload 4, 2) := by decide +kernel
theorem dX5_draw_10 : decode cX5_draw 10 = .ok (.iload_n 3, 1) := by decide +kernel
theorem dX5_draw_11 : decode cX5_draw 11 = .ok (.if_icmp .ge 127, 3) := by decide +kernel
theorem dX5_draw_14 : decode cX5_draw 14 = .ok (.iload_n 1, 1) := by decide +kernel
theorem dX5_draw_15 : decode cX5_draw 15 = .ok (.ldc 102, 2) := by decide +kernel
theorem dX5_draw_17 : decode cX5_draw 17 = .ok (.iload_n 2, 1) := by decide +kernel
theorem dX5_draw_18 : decode cX5_draw 18 = .ok (.imul, 1) := by decide +kernel
theorem dX5_draw_19 : decode cX5_draw 19 = .ok (.iadd, 1) := by decide +kernel
theorem dX5_draw_20 : decode cX5_draw 20 = .ok (.bipush 31, 2) := by decide +kernel
theorem dX5_draw_22 : decode cX5_draw 22 = .ok (.iload 4, 2) := by decide +kernel
theorem dX5_draw_24 : decode cX5_draw 24 = .ok (.imul, 1) := by decide +kernel
theorem dX5_draw_25 : decode cX5_draw 25 = .ok (.iadd, 1) := by decide +kernel
theorem dX5_draw_26 : decode cX5_draw 26 = .ok (.invokestatic 103, 3) := by decide +kernel
theorem dX5_draw_29 : decode cX5_draw 29 = .ok (.istore 5, 2) := by decide +kernel
theorem dX5_draw_31 : decode cX5_draw 31 = .ok (.iload 5, 2) := by decide +kernel
theorem dX5_draw_33 : decode cX5_draw 33 = .ok (.iconst 1, 1) := by decide +kernel
theorem dX5_draw_34 : decode cX5_draw 34 = .ok (.iadd, 1) := by decide +kernel
theorem dX5_draw_35 : decode cX5_draw 35 = .ok (.invokestatic 103, 3) := by decide +kernel
theorem dX5_draw_38 : decode cX5_draw 38 = .ok (.istore 6, 2) := by decide +kernel
theorem dX5_draw_40 : decode cX5_draw 40 = .ok (.iload 6, 2) := by decide +kernel
theorem dX5_draw_42 : decode cX5_draw 42 = .ok (.iconst 1, 1) := by decide +kernel
theorem dX5_draw_43 : decode cX5_draw 43 = .ok (.iadd, 1) := by decide +kernel
theorem dX5_draw_44 : decode cX5_draw 44 = .ok (.invokestatic 103, 3) := by decide +kernel
theorem dX5_draw_47 : decode cX5_draw 47 = .ok (.istore 7, 2) := by decide +kernel
theorem dX5_draw_49 : decode cX5_draw 49 = .ok (.aload_n 0, 1) := by decide +kernel
theorem dX5_draw_50 : decode cX5_draw 50 = .ok (.getfield 35, 3) := by decide +kernel
theorem dX5_draw_53 : decode cX5_draw 53 = .ok (.iload 4, 2) := by decide +kernel
theorem dX5_draw_55 : decode cX5_draw 55 = .ok (.iload 5, 2) := by decide +kernel
theorem dX5_draw_57 : decode cX5_draw 57 = .ok (.iconst 4, 1) := by decide +kernel
theorem dX5_draw_58 : decode cX5_draw 58 = .ok (.iushr, 1) := by decide +kernel
theorem dX5_draw_59 : decode cX5_draw 59 = .ok (.sipush 1440, 3) := by decide +kernel
theorem dX5_draw_62 : decode cX5_draw 62 = .ok (.irem, 1) := by decide +kernel
theorem dX5_draw_63 : decode cX5_draw 63 = .ok (.iastore, 1) := by decide +kernel
theorem dX5_draw_64 : decode cX5_draw 64 = .ok (.aload_n 0, 1) := by decide +kernel
theorem dX5_draw_65 : decode cX5_draw 65 = .ok (.getfield 41, 3) := by decide +kernel
theorem dX5_draw_68 : decode cX5_draw 68 = .ok (.iload 4, 2) := by decide +kernel
theorem dX5_draw_70 : decode cX5_draw 70 = .ok (.iload 6, 2) := by decide +kernel
theorem dX5_draw_72 : decode cX5_draw 72 = .ok (.iconst 3, 1) := by decide +kernel
theorem dX5_draw_73 : decode cX5_draw 73 = .ok (.iand, 1) := by decide +kernel
theorem dX5_draw_74 : decode cX5_draw 74 = .ok (.iastore, 1) := by decide +kernel
theorem dX5_draw_75 : decode cX5_draw 75 = .ok (.aload_n 0, 1) := by decide +kernel
theorem dX5_draw_76 : decode cX5_draw 76 = .ok (.getfield 44, 3) := by decide +kernel
theorem dX5_draw_79 : decode cX5_draw 79 = .ok (.iload 4, 2) := by decide +kernel
theorem dX5_draw_81 : decode cX5_draw 81 = .ok (.bipush 10, 2) := by decide +kernel
theorem dX5_draw_83 : decode cX5_draw 83 = .ok (.iload 6, 2) := by decide +kernel
theorem dX5_draw_85 : decode cX5_draw 85 = .ok (.bipush 8, 2) := by decide +kernel
theorem dX5_draw_87 : decode cX5_draw 87 = .ok (.iushr, 1) := by decide +kernel
theorem dX5_draw_88 : decode cX5_draw 88 = .ok (.bipush 90, 2) := by decide +kernel
theorem dX5_draw_90 : decode cX5_draw 90 = .ok (.irem, 1) := by decide +kernel
theorem dX5_draw_91 : decode cX5_draw 91 = .ok (.iadd, 1) := by decide +kernel
theorem dX5_draw_92 : decode cX5_draw 92 = .ok (.iastore, 1) := by decide +kernel
theorem dX5_draw_93 : decode cX5_draw 93 = .ok (.aload_n 0, 1) := by decide +kernel
theorem dX5_draw_94 : decode cX5_draw 94 = .ok (.getfield 38, 3) := by decide +kernel
theorem dX5_draw_97 : decode cX5_draw 97 = .ok (.iload 4, 2) := by decide +kernel
theorem dX5_draw_99 : decode cX5_draw 99 = .ok (.aload_n 0, 1) := by decide +kernel
theorem dX5_draw_100 : decode cX5_draw 100 = .ok (.iload 7, 2) := by decide +kernel
theorem dX5_draw_102 : decode cX5_draw 102 = .ok (.iconst 4, 1) := by decide +kernel
theorem dX5_draw_103 : decode cX5_draw 103 = .ok (.iushr, 1) := by decide +kernel
theorem dX5_draw_104 : decode cX5_draw 104 = .ok (.invokevirtual 107, 3) := by decide +kernel
theorem dX5_draw_107 : decode cX5_draw 107 = .ok (.iastore, 1) := by decide +kernel
theorem dX5_draw_108 : decode cX5_draw 108 = .ok (.aload_n 0, 1) := by decide +kernel
theorem dX5_draw_109 : decode cX5_draw 109 = .ok (.getfield 47, 3) := by decide +kernel
theorem dX5_draw_112 : decode cX5_draw 112 = .ok (.iload 4, 2) := by decide +kernel
theorem dX5_draw_114 : decode cX5_draw 114 = .ok (.iconst (-1), 1) := by decide +kernel
theorem dX5_draw_115 : decode cX5_draw 115 = .ok (.iastore, 1) := by decide +kernel
theorem dX5_draw_116 : decode cX5_draw 116 = .ok (.aload_n 0, 1) := by decide +kernel
theorem dX5_draw_117 : decode cX5_draw 117 = .ok (.getfield 50, 3) := by decide +kernel
theorem dX5_draw_120 : decode cX5_draw 120 = .ok (.iload 4, 2) := by decide +kernel
theorem dX5_draw_122 : decode cX5_draw 122 = .ok (.iconst (-1), 1) := by decide +kernel
theorem dX5_draw_123 : decode cX5_draw 123 = .ok (.iastore, 1) := by decide +kernel
theorem dX5_draw_124 : decode cX5_draw 124 = .ok (.aload_n 0, 1) := by decide +kernel
theorem dX5_draw_125 : decode cX5_draw 125 = .ok (.getfield 53, 3) := by decide +kernel
theorem dX5_draw_128 : decode cX5_draw 128 = .ok (.iload 4, 2) := by decide +kernel
theorem dX5_draw_130 : decode cX5_draw 130 = .ok (.iconst 0, 1) := by decide +kernel
theorem dX5_draw_131 : decode cX5_draw 131 = .ok (.iastore, 1) := by decide +kernel
theorem dX5_draw_132 : decode cX5_draw 132 = .ok (.iinc 4 1, 3) := by decide +kernel
theorem dX5_draw_135 : decode cX5_draw 135 = .ok (.goto (-127), 3) := by decide +kernel
theorem dX5_draw_138 : decode cX5_draw 138 = .ok (.return_, 1) := by decide +kernel
theorem dX5_size_0 : decode cX5_size 0 = .ok (.iload_n 0, 1) := by decide +kernel
theorem dX5_size_1 : decode cX5_size 1 = .ok (.ifCond .ge 8, 3) := by decide +kernel
theorem dX5_size_4 : decode cX5_size 4 = .ok (.iload_n 0, 1) := by decide +kernel
theorem dX5_size_5 : decode cX5_size 5 = .ok (.ineg, 1) := by decide +kernel
theorem dX5_size_6 : decode cX5_size 6 = .ok (.goto 4, 3) := by decide +kernel
theorem dX5_size_9 : decode cX5_size 9 = .ok (.iload_n 0, 1) := by decide +kernel
theorem dX5_size_10 : decode cX5_size 10 = .ok (.ireturn, 1) := by decide +kernel
set_option maxRecDepth 20000 in
theorem ggX5_wayOf_X5_size : GoodIn wsX5_wayOf wsX5_size := goodIn_r _ [9] (by decide +kernel) (by decide +kernel)
set_option maxRecDepth 20000 in
theorem gX5_wayOf_X5_size : GoodIn wsX5_wayOf (va_wsS RX5 110 yX5_size wsX5_size) := goodIn_app (goodIn_of _ (by decide +kernel)) ggX5_wayOf_X5_size
theorem dX5_wayOf_0 : decode cX5_wayOf 0 = .ok (.aload_n 0, 1) := by decide +kernel
theorem dX5_wayOf_1 : decode cX5_wayOf 1 = .ok (.getfield 16, 3) := by decide +kernel
theorem dX5_wayOf_4 : decode cX5_wayOf 4 = .ok (.iload_n 1, 1) := by decide +kernel
theorem dX5_wayOf_5 : decode cX5_wayOf 5 = .ok (.iaload, 1) := by decide +kernel
theorem dX5_wayOf_6 : decode cX5_wayOf 6 = .ok (.aload_n 0, 1) := by decide +kernel
theorem dX5_wayOf_7 : decode cX5_wayOf 7 = .ok (.getfield 23, 3) := by decide +kernel
theorem dX5_wayOf_10 : decode cX5_wayOf 10 = .ok (.iload_n 2, 1) := by decide +kernel
theorem dX5_wayOf_11 : decode cX5_wayOf 11 = .ok (.iaload, 1) := by decide +kernel
theorem dX5_wayOf_12 : decode cX5_wayOf 12 = .ok (.isub, 1) := by decide +kernel
theorem dX5_wayOf_13 : decode cX5_wayOf 13 = .ok (.invokestatic 110, 3) := by decide +kernel
theorem dX5_wayOf_16 : decode cX5_wayOf 16 = .ok (.aload_n 0, 1) := by decide +kernel
theorem dX5_wayOf_17 : decode cX5_wayOf 17 = .ok (.getfield 20, 3) := by decide +kernel
theorem dX5_wayOf_20 : decode cX5_wayOf 20 = .ok (.iload_n 1, 1) := by decide +kernel
theorem dX5_wayOf_21 : decode cX5_wayOf 21 = .ok (.iaload, 1) := by decide +kernel
theorem dX5_wayOf_22 : decode cX5_wayOf 22 = .ok (.aload_n 0, 1) := by decide +kernel
theorem dX5_wayOf_23 : decode cX5_wayOf 23 = .ok (.getfield 26, 3) := by decide +kernel
theorem dX5_wayOf_26 : decode cX5_wayOf 26 = .ok (.iload_n 2, 1) := by decide +kernel
theorem dX5_wayOf_27 : decode cX5_wayOf 27 = .ok (.iaload, 1) := by decide +kernel
theorem dX5_wayOf_28 : decode cX5_wayOf 28 = .ok (.isub, 1) := by decide +kernel
theorem dX5_wayOf_29 : decode cX5_wayOf 29 = .ok (.invokestatic 110, 3) := by decide +kernel
theorem dX5_wayOf_32 : decode cX5_wayOf 32 = .ok (.iadd, 1) := by decide +kernel
theorem dX5_wayOf_33 : decode cX5_wayOf 33 = .ok (.istore_n 3, 1) := by decide +kernel
theorem dX5_wayOf_34 : decode cX5_wayOf 34 = .ok (.iload_n 3, 1) := by decide +kernel
theorem dX5_wayOf_35 : decode cX5_wayOf 35 = .ok (.aload_n 0, 1) := by decide +kernel
theorem dX5_wayOf_36 : decode cX5_wayOf 36 = .ok (.getfield 7, 3) := by decide +kernel
theorem dX5_wayOf_39 : decode cX5_wayOf 39 = .ok (.imul, 1) := by decide +kernel
theorem dX5_wayOf_40 : decode cX5_wayOf 40 = .ok (.iconst 3, 1) := by decide +kernel
theorem dX5_wayOf_41 : decode cX5_wayOf 41 = .ok (.iadd, 1) := by decide +kernel
theorem dX5_wayOf_42 : decode cX5_wayOf 42 = .ok (.iconst 4, 1) := by decide +kernel
theorem dX5_wayOf_43 : decode cX5_wayOf 43 = .ok (.idiv, 1) := by decide +kernel
theorem dX5_wayOf_44 : decode cX5_wayOf 44 = .ok (.ireturn, 1) := by decide +kernel
theorem dX5_next_0 : decode cX5_next 0 = .ok (.iconst (-1), 1) := by decide +kernel
theorem dX5_next_1 : decode cX5_next 1 = .ok (.istore_n 2, 1) := by decide +kernel
theorem dX5_next_2 : decode cX5_next 2 = .ok (.iconst 0, 1) := by decide +kernel
theorem dX5_next_3 : decode cX5_next 3 = .ok (.istore_n 3, 1) := by decide +kernel
theorem dX5_next_4 : decode cX5_next 4 = .ok (.iload_n 3, 1) := by decide +kernel
theorem dX5_next_5 : decode cX5_next 5 = .ok (.aload_n 0, 1) := by decide +kernel
theorem dX5_next_6 : decode cX5_next 6 = .ok (.getfield 99, 3) := by decide +kernel
theorem dX5_next_9 : decode cX5_next 9 = .ok (.if_icmp .ge 107, 3) := by decide +kernel
theorem dX5_next_12 : decode cX5_next 12 = .ok (.aload_n 0, 1) := by decide +kernel
theorem dX5_next_13 : decode cX5_next 13 = .ok (.getfield 47, 3) := by decide +kernel
theorem dX5_next_16 : decode cX5_next 16 = .ok (.iload_n 3, 1) := by decide +kernel
theorem dX5_next_17 : decode cX5_next 17 = .ok (.iaload, 1) := by decide +kernel
theorem dX5_next_18 : decode cX5_next 18 = .ok (.ifCond .ge 17, 3) := by decide +kernel
theorem dX5_next_21 : decode cX5_next 21 = .ok (.aload_n 0, 1) := by decide +kernel
theorem dX5_next_22 : decode cX5_next 22 = .ok (.getfield 35, 3) := by decide +kernel
theorem dX5_next_25 : decode cX5_next 25 = .ok (.iload_n 3, 1) := by decide +kernel
theorem dX5_next_26 : decode cX5_next 26 = .ok (.iaload, 1) := by decide +kernel
theorem dX5_next_27 : decode cX5_next 27 = .ok (.iload_n 1, 1) := by decide +kernel
theorem dX5_next_28 : decode cX5_next 28 = .ok (.if_icmp .gt 7, 3) := by decide +kernel
theorem dX5_next_31 : decode cX5_next 31 = .ok (.iconst 1, 1) := by decide +kernel
theorem dX5_next_32 : decode cX5_next 32 = .ok (.goto 4, 3) := by decide +kernel
theorem dX5_next_35 : decode cX5_next 35 = .ok (.iconst 0, 1) := by decide +kernel
theorem dX5_next_36 : decode cX5_next 36 = .ok (.istore 4, 2) := by decide +kernel
theorem dX5_next_38 : decode cX5_next 38 = .ok (.iload_n 2, 1) := by decide +kernel
theorem dX5_next_39 : decode cX5_next 39 = .ok (.ifCond .lt 48, 3) := by decide +kernel
theorem dX5_next_42 : decode cX5_next 42 = .ok (.aload_n 0, 1) := by decide +kernel
theorem dX5_next_43 : decode cX5_next 43 = .ok (.getfield 41, 3) := by decide +kernel
theorem dX5_next_46 : decode cX5_next 46 = .ok (.iload_n 3, 1) := by decide +kernel
theorem dX5_next_47 : decode cX5_next 47 = .ok (.iaload, 1) := by decide +kernel
theorem dX5_next_48 : decode cX5_next 48 = .ok (.aload_n 0, 1) := by decide +kernel
theorem dX5_next_49 : decode cX5_next 49 = .ok (.getfield 41, 3) := by decide +kernel
theorem dX5_next_52 : decode cX5_next 52 = .ok (.iload_n 2, 1) := by decide +kernel
theorem dX5_next_53 : decode cX5_next 53 = .ok (.iaload, 1) := by decide +kernel
theorem dX5_next_54 : decode cX5_next 54 = .ok (.if_icmp .gt 33, 3) := by decide +kernel
theorem dX5_next_57 : decode cX5_next 57 = .ok (.aload_n 0, 1) := by decide +kernel
theorem dX5_next_58 : decode cX5_next 58 = .ok (.getfield 41, 3) := by decide +kernel
theorem dX5_next_61 : decode cX5_next 61 = .ok (.iload_n 3, 1) := by decide +kernel
theorem dX5_next_62 : decode cX5_next 62 = .ok (.iaload, 1) := by decide +kernel
theorem dX5_next_63 : decode cX5_next 63 = .ok (.aload_n 0, 1) := by decide +kernel
theorem dX5_next_64 : decode cX5_next 64 = .ok (.getfield 41, 3) := by decide +kernel
theorem dX5_next_67 : decode cX5_next 67 = .ok (.iload_n 2, 1) := by decide +kernel
theorem dX5_next_68 : decode cX5_next 68 = .ok (.iaload, 1) := by decide +kernel
theorem dX5_next_69 : decode cX5_next 69 = .ok (.if_icmp .ne 22, 3) := by decide +kernel
theorem dX5_next_72 : decode cX5_next 72 = .ok (.aload_n 0, 1) := by decide +kernel
theorem dX5_next_73 : decode cX5_next 73 = .ok (.getfield 35, 3) := by decide +kernel
theorem dX5_next_76 : decode cX5_next 76 = .ok (.iload_n 3, 1) := by decide +kernel
theorem dX5_next_77 : decode cX5_next 77 = .ok (.iaload, 1) := by decide +kernel
theorem dX5_next_78 : decode cX5_next 78 = .ok (.aload_n 0, 1) := by decide +kernel
theorem dX5_next_79 : decode cX5_next 79 = .ok (.getfield 35, 3) := by decide +kernel
theorem dX5_next_82 : decode cX5_next 82 = .ok (.iload_n 2, 1) := by decide +kernel
theorem dX5_next_83 : decode cX5_next 83 = .ok (.iaload, 1) := by decide +kernel
theorem dX5_next_84 : decode cX5_next 84 = .ok (.if_icmp .ge 7, 3) := by decide +kernel
theorem dX5_next_87 : decode cX5_next 87 = .ok (.iconst 1, 1) := by decide +kernel
theorem dX5_next_88 : decode cX5_next 88 = .ok (.goto 4, 3) := by decide +kernel
theorem dX5_next_91 : decode cX5_next 91 = .ok (.iconst 0, 1) := by decide +kernel
theorem dX5_next_92 : decode cX5_next 92 = .ok (.istore 5, 2) := by decide +kernel
theorem dX5_next_94 : decode cX5_next 94 = .ok (.iload 4, 2) := by decide +kernel
theorem dX5_next_96 : decode cX5_next 96 = .ok (.ifCond .eq 12, 3) := by decide +kernel
theorem dX5_next_99 : decode cX5_next 99 = .ok (.iload 5, 2) := by decide +kernel
theorem dX5_next_101 : decode cX5_next 101 = .ok (.ifCond .eq 7, 3) := by decide +kernel
theorem dX5_next_104 : decode cX5_next 104 = .ok (.iload_n 3, 1) := by decide +kernel
theorem dX5_next_105 : decode cX5_next 105 = .ok (.goto 4, 3) := by decide +kernel
theorem dX5_next_108 : decode cX5_next 108 = .ok (.iload_n 2, 1) := by decide +kernel
theorem dX5_next_109 : decode cX5_next 109 = .ok (.istore_n 2, 1) := by decide +kernel
theorem dX5_next_110 : decode cX5_next 110 = .ok (.iinc 3 1, 3) := by decide +kernel
theorem dX5_next_113 : decode cX5_next 113 = .ok (.goto (-109), 3) := by decide +kernel
theorem dX5_next_116 : decode cX5_next 116 = .ok (.iload_n 2, 1) := by decide +kernel
theorem dX5_next_117 : decode cX5_next 117 = .ok (.ireturn, 1) := by decide +kernel
set_option maxRecDepth 20000 in
theorem ggX5_nearest_X5_wayOf : GoodIn wsX5_nearest wsX5_wayOf := goodIn_r _ [9, 10, 11, 12, 13, 14, 15, 16, 8, 17, 18, 19, 20, 21, 22, 23, 24, 25, 26, 27, 28, 29, 30, 31, 32, 33, 34, 35, 36, 37, 38, 39, 40, 41] (by decide +kernel) (by decide +kernel)
set_option maxRecDepth 20000 in
theorem gX5_nearest_X5_wayOf : GoodIn wsX5_nearest (wsV RX5 114 RX5 yX5_wayOf wsX5_wayOf) := goodIn_app (goodIn_of _ (by decide +kernel)) ggX5_nearest_X5_wayOf
theorem dX5_nearest_0 : decode cX5_nearest 0 = .ok (.iconst (-1), 1) := by decide +kernel
theorem dX5_nearest_1 : decode cX5_nearest 1 = .ok (.istore 4, 2) := by decide +kernel
theorem dX5_nearest_3 : decode cX5_nearest 3 = .ok (.ldc 113, 2) := by decide +kernel
theorem dX5_nearest_5 : decode cX5_nearest 5 = .ok (.istore 5, 2) := by decide +kernel
theorem dX5_nearest_7 : decode cX5_nearest 7 = .ok (.iconst 0, 1) := by decide +kernel
theorem dX5_nearest_8 : decode cX5_nearest 8 = .ok (.istore 6, 2) := by decide +kernel
theorem dX5_nearest_10 : decode cX5_nearest 10 = .ok (.iload 6, 2) := by decide +kernel
theorem dX5_nearest_12 : decode cX5_nearest 12 = .ok (.aload_n 0, 1) := by decide +kernel
theorem dX5_nearest_13 : decode cX5_nearest 13 = .ok (.getfield 86, 3) := by decide +kernel
theorem dX5_nearest_16 : decode cX5_nearest 16 = .ok (.if_icmp .ge 64, 3) := by decide +kernel
theorem dX5_nearest_19 : decode cX5_nearest 19 = .ok (.aload_n 0, 1) := by decide +kernel
theorem dX5_nearest_20 : decode cX5_nearest 20 = .ok (.getfield 32, 3) := by decide +kernel
theorem dX5_nearest_23 : decode cX5_nearest 23 = .ok (.bipush 12, 2) := by decide +kernel
theorem dX5_nearest_25 : decode cX5_nearest 25 = .ok (.iload_n 1, 1) := by decide +kernel
theorem dX5_nearest_26 : decode cX5_nearest 26 = .ok (.imul, 1) := by decide +kernel
theorem dX5_nearest_27 : decode cX5_nearest 27 = .ok (.iload 6, 2) := by decide +kernel
theorem dX5_nearest_29 : decode cX5_nearest 29 = .ok (.iadd, 1) := by decide +kernel
theorem dX5_nearest_30 : decode cX5_nearest 30 = .ok (.iaload, 1) := by decide +kernel
theorem dX5_nearest_31 : decode cX5_nearest 31 = .ok (.istore 7, 2) := by decide +kernel
theorem dX5_nearest_33 : decode cX5_nearest 33 = .ok (.iload 7, 2) := by decide +kernel
theorem dX5_nearest_35 : decode cX5_nearest 35 = .ok (.ifCond .lt 39, 3) := by decide +kernel
theorem dX5_nearest_38 : decode cX5_nearest 38 = .ok (.aload_n 0, 1) := by decide +kernel
theorem dX5_nearest_39 : decode cX5_nearest 39 = .ok (.getfield 56, 3) := by decide +kernel
theorem dX5_nearest_42 : decode cX5_nearest 42 = .ok (.iload 6, 2) := by decide +kernel
theorem dX5_nearest_44 : decode cX5_nearest 44 = .ok (.iaload, 1) := by decide +kernel
theorem dX5_nearest_45 : decode cX5_nearest 45 = .ok (.iload_n 3, 1) := by decide +kernel
theorem dX5_nearest_46 : decode cX5_nearest 46 = .ok (.if_icmp .gt 28, 3) := by decide +kernel
theorem dX5_nearest_49 : decode cX5_nearest 49 = .ok (.aload_n 0, 1) := by decide +kernel
theorem dX5_nearest_50 : decode cX5_nearest 50 = .ok (.iload 7, 2) := by decide +kernel
theorem dX5_nearest_52 : decode cX5_nearest 52 = .ok (.iload_n 2, 1) := by decide +kernel
theorem dX5_nearest_53 : decode cX5_nearest 53 = .ok (.invokevirtual 114, 3) := by decide +kernel
theorem dX5_nearest_56 : decode cX5_nearest 56 = .ok (.iload 5, 2) := by decide +kernel
theorem dX5_nearest_58 : decode cX5_nearest 58 = .ok (.if_icmp .ge 16, 3) := by decide +kernel
theorem dX5_nearest_61 : decode cX5_nearest 61 = .ok (.iload 6, 2) := by decide +kernel
theorem dX5_nearest_63 : decode cX5_nearest 63 = .ok (.istore 4, 2) := by decide +kernel
theorem dX5_nearest_65 : decode cX5_nearest 65 = .ok (.aload_n 0, 1) := by decide +kernel
theorem dX5_nearest_66 : decode cX5_nearest 66 = .ok (.iload 7, 2) := by decide +kernel
theorem dX5_nearest_68 : decode cX5_nearest 68 = .ok (.iload_n 2, 1) := by decide +kernel
theorem dX5_nearest_69 : decode cX5_nearest 69 = .ok (.invokevirtual 114, 3) := by decide +kernel
theorem dX5_nearest_72 : decode cX5_nearest 72 = .ok (.istore 5, 2) := by decide +kernel
theorem dX5_nearest_74 : decode cX5_nearest 74 = .ok (.iinc 6 1, 3) := by decide +kernel
theorem dX5_nearest_77 : decode cX5_nearest 77 = .ok (.goto (-67), 3) := by decide +kernel
theorem dX5_nearest_80 : decode cX5_nearest 80 = .ok (.iload 4, 2) := by decide +kernel
theorem dX5_nearest_82 : decode cX5_nearest 82 = .ok (.ireturn, 1) := by decide +kernel
theorem dX5_send_0 : decode cX5_send 0 = .ok (.aload_n 0, 1) := by decide +kernel
theorem dX5_send_1 : decode cX5_send 1 = .ok (.getfield 47, 3) := by decide +kernel
theorem dX5_send_4 : decode cX5_send 4 = .ok (.iload_n 1, 1) := by decide +kernel
theorem dX5_send_5 : decode cX5_send 5 = .ok (.iload_n 2, 1) := by decide +kernel
theorem dX5_send_6 : decode cX5_send 6 = .ok (.iastore, 1) := by decide +kernel
theorem dX5_send_7 : decode cX5_send 7 = .ok (.aload_n 0, 1) := by decide +kernel
theorem dX5_send_8 : decode cX5_send 8 = .ok (.getfield 53, 3) := by decide +kernel
theorem dX5_send_11 : decode cX5_send 11 = .ok (.iload_n 1, 1) := by decide +kernel
theorem dX5_send_12 : decode cX5_send 12 = .ok (.iload_n 3, 1) := by decide +kernel
theorem dX5_send_13 : decode cX5_send 13 = .ok (.iastore, 1) := by decide +kernel
theorem dX5_send_14 : decode cX5_send 14 = .ok (.aload_n 0, 1) := by decide +kernel
theorem dX5_send_15 : decode cX5_send 15 = .ok (.getfield 50, 3) := by decide +kernel
theorem dX5_send_18 : decode cX5_send 18 = .ok (.iload_n 1, 1) := by decide +kernel
theorem dX5_send_19 : decode cX5_send 19 = .ok (.iload 4, 2) := by decide +kernel
theorem dX5_send_21 : decode cX5_send 21 = .ok (.iload_n 3, 1) := by decide +kernel
theorem dX5_send_22 : decode cX5_send 22 = .ok (.iadd, 1) := by decide +kernel
theorem dX5_send_23 : decode cX5_send 23 = .ok (.iastore, 1) := by decide +kernel
theorem dX5_send_24 : decode cX5_send 24 = .ok (.aload_n 0, 1) := by decide +kernel
theorem dX5_send_25 : decode cX5_send 25 = .ok (.getfield 56, 3) := by decide +kernel
theorem dX5_send_28 : decode cX5_send 28 = .ok (.iload_n 2, 1) := by decide +kernel
theorem dX5_send_29 : decode cX5_send 29 = .ok (.iload 4, 2) := by decide +kernel
theorem dX5_send_31 : decode cX5_send 31 = .ok (.iconst 2, 1) := by decide +kernel
theorem dX5_send_32 : decode cX5_send 32 = .ok (.iload_n 3, 1) := by decide +kernel
theorem dX5_send_33 : decode cX5_send 33 = .ok (.imul, 1) := by decide +kernel
theorem dX5_send_34 : decode cX5_send 34 = .ok (.iadd, 1) := by decide +kernel
theorem dX5_send_35 : decode cX5_send 35 = .ok (.aload_n 0, 1) := by decide +kernel
theorem dX5_send_36 : decode cX5_send 36 = .ok (.getfield 44, 3) := by decide +kernel
theorem dX5_send_39 : decode cX5_send 39 = .ok (.iload_n 1, 1) := by decide +kernel
theorem dX5_send_40 : decode cX5_send 40 = .ok (.iaload, 1) := by decide +kernel
theorem dX5_send_41 : decode cX5_send 41 = .ok (.iadd, 1) := by decide +kernel
theorem dX5_send_42 : decode cX5_send 42 = .ok (.iastore, 1) := by decide +kernel
theorem dX5_send_43 : decode cX5_send 43 = .ok (.aload_n 0, 1) := by decide +kernel
theorem dX5_send_44 : decode cX5_send 44 = .ok (.getfield 59, 3) := by decide +kernel
theorem dX5_send_47 : decode cX5_send 47 = .ok (.iload_n 2, 1) := by decide +kernel
theorem dX5_send_48 : decode cX5_send 48 = .ok (.dup2, 1) := by decide +kernel
theorem dX5_send_49 : decode cX5_send 49 = .ok (.iaload, 1) := by decide +kernel
theorem dX5_send_50 : decode cX5_send 50 = .ok (.aload_n 0, 1) := by decide +kernel
theorem dX5_send_51 : decode cX5_send 51 = .ok (.getfield 56, 3) := by decide +kernel
theorem dX5_send_54 : decode cX5_send 54 = .ok (.iload_n 2, 1) := by decide +kernel
theorem dX5_send_55 : decode cX5_send 55 = .ok (.iaload, 1) := by decide +kernel
theorem dX5_send_56 : decode cX5_send 56 = .ok (.iload 4, 2) := by decide +kernel
theorem dX5_send_58 : decode cX5_send 58 = .ok (.isub, 1) := by decide +kernel
theorem dX5_send_59 : decode cX5_send 59 = .ok (.iadd, 1) := by decide +kernel
theorem dX5_send_60 : decode cX5_send 60 = .ok (.iastore, 1) := by decide +kernel
theorem dX5_send_61 : decode cX5_send 61 = .ok (.iload 4, 2) := by decide +kernel
theorem dX5_send_63 : decode cX5_send 63 = .ok (.istore 5, 2) := by decide +kernel
theorem dX5_send_65 : decode cX5_send 65 = .ok (.iload 5, 2) := by decide +kernel
theorem dX5_send_67 : decode cX5_send 67 = .ok (.aload_n 0, 1) := by decide +kernel
theorem dX5_send_68 : decode cX5_send 68 = .ok (.getfield 56, 3) := by decide +kernel
theorem dX5_send_71 : decode cX5_send 71 = .ok (.iload_n 2, 1) := by decide +kernel
theorem dX5_send_72 : decode cX5_send 72 = .ok (.iaload, 1) := by decide +kernel
theorem dX5_send_73 : decode cX5_send 73 = .ok (.if_icmp .ge 28, 3) := by decide +kernel
theorem dX5_send_76 : decode cX5_send 76 = .ok (.iload 5, 2) := by decide +kernel
theorem dX5_send_78 : decode cX5_send 78 = .ok (.sipush 1440, 3) := by decide +kernel
theorem dX5_send_81 : decode cX5_send 81 = .ok (.if_icmp .ge 20, 3) := by decide +kernel
theorem dX5_send_84 : decode cX5_send 84 = .ok (.aload_n 0, 1) := by decide +kernel
theorem dX5_send_85 : decode cX5_send 85 = .ok (.getfield 62, 3) := by decide +kernel
theorem dX5_send_88 : decode cX5_send 88 = .ok (.iload 5, 2) := by decide +kernel
theorem dX5_send_90 : decode cX5_send 90 = .ok (.dup2, 1) := by decide +kernel
theorem dX5_send_91 : decode cX5_send 91 = .ok (.iaload, 1) := by decide +kernel
theorem dX5_send_92 : decode cX5_send 92 = .ok (.iconst 1, 1) := by decide +kernel
theorem dX5_send_93 : decode cX5_send 93 = .ok (.iadd, 1) := by decide +kernel
theorem dX5_send_94 : decode cX5_send 94 = .ok (.iastore, 1) := by decide +kernel
theorem dX5_send_95 : decode cX5_send 95 = .ok (.iinc 5 1, 3) := by decide +kernel
theorem dX5_send_98 : decode cX5_send 98 = .ok (.goto (-33), 3) := by decide +kernel
theorem dX5_send_101 : decode cX5_send 101 = .ok (.return_, 1) := by decide +kernel
theorem dX5_later_0 : decode cX5_later 0 = .ok (.ldc 113, 2) := by decide +kernel
theorem dX5_later_2 : decode cX5_later 2 = .ok (.istore_n 2, 1) := by decide +kernel
theorem dX5_later_3 : decode cX5_later 3 = .ok (.iconst 0, 1) := by decide +kernel
theorem dX5_later_4 : decode cX5_later 4 = .ok (.istore_n 3, 1) := by decide +kernel
theorem dX5_later_5 : decode cX5_later 5 = .ok (.iload_n 3, 1) := by decide +kernel
theorem dX5_later_6 : decode cX5_later 6 = .ok (.aload_n 0, 1) := by decide +kernel
theorem dX5_later_7 : decode cX5_later 7 = .ok (.getfield 99, 3) := by decide +kernel
theorem dX5_later_10 : decode cX5_later 10 = .ok (.if_icmp .ge 40, 3) := by decide +kernel
theorem dX5_later_13 : decode cX5_later 13 = .ok (.aload_n 0, 1) := by decide +kernel
theorem dX5_later_14 : decode cX5_later 14 = .ok (.getfield 35, 3) := by decide +kernel
theorem dX5_later_17 : decode cX5_later 17 = .ok (.iload_n 3, 1) := by decide +kernel
theorem dX5_later_18 : decode cX5_later 18 = .ok (.iaload, 1) := by decide +kernel
theorem dX5_later_19 : decode cX5_later 19 = .ok (.iload_n 1, 1) := by decide +kernel
theorem dX5_later_20 : decode cX5_later 20 = .ok (.if_icmp .le 22, 3) := by decide +kernel
theorem dX5_later_23 : decode cX5_later 23 = .ok (.aload_n 0, 1) := by decide +kernel
theorem dX5_later_24 : decode cX5_later 24 = .ok (.getfield 35, 3) := by decide +kernel
theorem dX5_later_27 : decode cX5_later 27 = .ok (.iload_n 3, 1) := by decide +kernel
theorem dX5_later_28 : decode cX5_later 28 = .ok (.iaload, 1) := by decide +kernel
theorem dX5_later_29 : decode cX5_later 29 = .ok (.iload_n 2, 1) := by decide +kernel
theorem dX5_later_30 : decode cX5_later 30 = .ok (.if_icmp .ge 12, 3) := by decide +kernel
theorem dX5_later_33 : decode cX5_later 33 = .ok (.aload_n 0, 1) := by decide +kernel
theorem dX5_later_34 : decode cX5_later 34 = .ok (.getfield 35, 3) := by decide +kernel
theorem dX5_later_37 : decode cX5_later 37 = .ok (.iload_n 3, 1) := by decide +kernel
theorem dX5_later_38 : decode cX5_later 38 = .ok (.iaload, 1) := by decide +kernel
theorem dX5_later_39 : decode cX5_later 39 = .ok (.goto 4, 3) := by decide +kernel
theorem dX5_later_42 : decode cX5_later 42 = .ok (.iload_n 2, 1) := by decide +kernel
theorem dX5_later_43 : decode cX5_later 43 = .ok (.istore_n 2, 1) := by decide +kernel
theorem dX5_later_44 : decode cX5_later 44 = .ok (.iinc 3 1, 3) := by decide +kernel
theorem dX5_later_47 : decode cX5_later 47 = .ok (.goto (-42), 3) := by decide +kernel
theorem dX5_later_50 : decode cX5_later 50 = .ok (.iconst 0, 1) := by decide +kernel
theorem dX5_later_51 : decode cX5_later 51 = .ok (.istore_n 3, 1) := by decide +kernel
theorem dX5_later_52 : decode cX5_later 52 = .ok (.iload_n 3, 1) := by decide +kernel
theorem dX5_later_53 : decode cX5_later 53 = .ok (.aload_n 0, 1) := by decide +kernel
theorem dX5_later_54 : decode cX5_later 54 = .ok (.getfield 86, 3) := by decide +kernel
theorem dX5_later_57 : decode cX5_later 57 = .ok (.if_icmp .ge 40, 3) := by decide +kernel
theorem dX5_later_60 : decode cX5_later 60 = .ok (.aload_n 0, 1) := by decide +kernel
theorem dX5_later_61 : decode cX5_later 61 = .ok (.getfield 56, 3) := by decide +kernel
theorem dX5_later_64 : decode cX5_later 64 = .ok (.iload_n 3, 1) := by decide +kernel
theorem dX5_later_65 : decode cX5_later 65 = .ok (.iaload, 1) := by decide +kernel
theorem dX5_later_66 : decode cX5_later 66 = .ok (.iload_n 1, 1) := by decide +kernel
theorem dX5_later_67 : decode cX5_later 67 = .ok (.if_icmp .le 22, 3) := by decide +kernel
theorem dX5_later_70 : decode cX5_later 70 = .ok (.aload_n 0, 1) := by decide +kernel
theorem dX5_later_71 : decode cX5_later 71 = .ok (.getfield 56, 3) := by decide +kernel
theorem dX5_later_74 : decode cX5_later 74 = .ok (.iload_n 3, 1) := by decide +kernel
theorem dX5_later_75 : decode cX5_later 75 = .ok (.iaload, 1) := by decide +kernel
theorem dX5_later_76 : decode cX5_later 76 = .ok (.iload_n 2, 1) := by decide +kernel
theorem dX5_later_77 : decode cX5_later 77 = .ok (.if_icmp .ge 12, 3) := by decide +kernel
theorem dX5_later_80 : decode cX5_later 80 = .ok (.aload_n 0, 1) := by decide +kernel
theorem dX5_later_81 : decode cX5_later 81 = .ok (.getfield 56, 3) := by decide +kernel
theorem dX5_later_84 : decode cX5_later 84 = .ok (.iload_n 3, 1) := by decide +kernel
theorem dX5_later_85 : decode cX5_later 85 = .ok (.iaload, 1) := by decide +kernel
theorem dX5_later_86 : decode cX5_later 86 = .ok (.goto 4, 3) := by decide +kernel
theorem dX5_later_89 : decode cX5_later 89 = .ok (.iload_n 2, 1) := by decide +kernel
theorem dX5_later_90 : decode cX5_later 90 = .ok (.istore_n 2, 1) := by decide +kernel
theorem dX5_later_91 : decode cX5_later 91 = .ok (.iinc 3 1, 3) := by decide +kernel
theorem dX5_later_94 : decode cX5_later 94 = .ok (.goto (-42), 3) := by decide +kernel
theorem dX5_later_97 : decode cX5_later 97 = .ok (.iload_n 2, 1) := by decide +kernel
theorem dX5_later_98 : decode cX5_later 98 = .ok (.ireturn, 1) := by decide +kernel
set_option maxRecDepth 20000 in
theorem ggX5_play_X5_draw : GoodIn wsX5_play wsX5_draw := goodIn_r _ [13, 14, 15, 16, 17, 18, 7, 19, 20, 21, 22, 23, 12, 24, 25, 26, 27, 28, 29, 30, 31, 32, 61, 62, 63, 64, 65, 66, 67, 68, 69, 70, 71, 72, 73, 74, 75, 76, 77, 78, 79, 80, 81, 82, 83, 84] (by decide +kernel) (by decide +kernel)
set_option maxRecDepth 20000 in
theorem gX5_play_X5_draw : GoodIn wsX5_play (wsV RX5 118 RX5 yX5_draw wsX5_draw) := goodIn_app (goodIn_of _ (by decide +kernel)) ggX5_play_X5_draw
set_option maxRecDepth 20000 in
theorem ggX5_play_X5_next : GoodIn wsX5_play wsX5_next := goodIn_r _ [36, 14, 19, 16, 17, 61, 62, 63, 64, 65, 66, 67, 68, 69, 70, 71, 72, 73, 74, 75, 76, 77, 78, 79, 80, 81, 82, 83, 84] (by decide +kernel) (by decide +kernel)
set_option maxRecDepth 20000 in
theorem gX5_play_X5_next : GoodIn wsX5_play (wsV RX5 122 RX5 yX5_next wsX5_next) := goodIn_app (goodIn_of _ (by decide +kernel)) ggX5_play_X5_next
set_option maxRecDepth 20000 in
theorem ggX5_play_X5_nearest : GoodIn wsX5_play wsX5_nearest := goodIn_r _ [40, 6, 3, 4, 1, 41, 42, 43, 12, 44, 45, 46, 47, 48, 49, 50, 51, 52, 61, 62, 63, 64, 65, 66, 67, 68, 69, 70, 71, 72, 73, 74, 75, 76, 77, 78, 79, 80, 81, 82, 83, 84] (by decide +kernel) (by decide +kernel)
set_option maxRecDepth 20000 in
theorem gX5_play_X5_nearest : GoodIn wsX5_play (wsV RX5 125 RX5 yX5_nearest wsX5_nearest) := goodIn_app (goodIn_of _ (by decide +kernel)) ggX5_play_X5_nearest
set_option maxRecDepth 20000 in
theorem ggX5_play_X5_wayOf : GoodIn wsX5_play wsX5_wayOf := goodIn_r _ [44, 45, 46, 47, 48, 49, 50, 51, 12, 52, 61, 62, 63, 64, 65, 66, 67, 68, 69, 70, 71, 72, 73, 74, 75, 76, 77, 78, 79, 80, 81, 82, 83, 84] (by decide +kernel) (by decide +kernel)
set_option maxRecDepth 20000 in
theorem gX5_play_X5_wayOf : GoodIn wsX5_play (wsV RX5 114 RX5 yX5_wayOf wsX5_wayOf) := goodIn_app (goodIn_of _ (by decide +kernel)) ggX5_play_X5_wayOf
set_option maxRecDepth 20000 in
theorem ggX5_play_X5_send : GoodIn wsX5_play wsX5_send := goodIn_r _ [56, 19, 21, 20, 1, 18, 2, 5, 61, 62, 63, 64, 65, 66, 67, 68, 69, 70, 71, 72, 73, 74, 75, 76, 77, 78, 79, 80, 81, 82, 83, 84] (by decide +kernel) (by decide +kernel)
set_option maxRecDepth 20000 in
theorem gX5_play_X5_send : GoodIn wsX5_play (wsV RX5 128 RX5 yX5_send wsX5_send) := goodIn_app (goodIn_of _ (by decide +kernel)) ggX5_play_X5_send
set_option maxRecDepth 20000 in
theorem ggX5_play_X5_later : GoodIn wsX5_play wsX5_later := goodIn_r _ [60, 6, 14, 16, 3, 1, 61, 62, 63, 64, 65, 66, 67, 68, 69, 70, 71, 72, 73, 74, 75, 76, 77, 78, 79, 80, 81, 82, 83, 84] (by decide +kernel) (by decide +kernel)
set_option maxRecDepth 20000 in
theorem gX5_play_X5_later : GoodIn wsX5_play (wsV RX5 132 RX5 yX5_later wsX5_later) := goodIn_app (goodIn_of _ (by decide +kernel)) ggX5_play_X5_later
theorem dX5_play_0 : decode cX5_play 0 = .ok (.aload_n 0, 1) := by decide +kernel
theorem dX5_play_1 : decode cX5_play 1 = .ok (.iload_n 2, 1) := by decide +kernel
theorem dX5_play_2 : decode cX5_play 2 = .ok (.iload_n 3, 1) := by decide +kernel
theorem dX5_play_3 : decode cX5_play 3 = .ok (.iload 4, 2) := by decide +kernel
theorem dX5_play_5 : decode cX5_play 5 = .ok (.invokevirtual 118, 3) := by decide +kernel
theorem dX5_play_8 : decode cX5_play 8 = .ok (.iconst 0, 1) := by decide +kernel
theorem dX5_play_9 : decode cX5_play 9 = .ok (.istore 5, 2) := by decide +kernel
theorem dX5_play_11 : decode cX5_play 11 = .ok (.iconst 0, 1) := by decide +kernel
theorem dX5_play_12 : decode cX5_play 12 = .ok (.istore 6, 2) := by decide +kernel
theorem dX5_play_14 : decode cX5_play 14 = .ok (.iload 6, 2) := by decide +kernel
theorem dX5_play_16 : decode cX5_play 16 = .ok (.bipush 12, 2) := by decide +kernel
theorem dX5_play_18 : decode cX5_play 18 = .ok (.if_icmp .ge 59, 3) := by decide +kernel
theorem dX5_play_21 : decode cX5_play 21 = .ok (.aload_n 0, 1) := by decide +kernel
theorem dX5_play_22 : decode cX5_play 22 = .ok (.getfield 56, 3) := by decide +kernel
theorem dX5_play_25 : decode cX5_play 25 = .ok (.iload 6, 2) := by decide +kernel
theorem dX5_play_27 : decode cX5_play 27 = .ok (.iconst 0, 1) := by decide +kernel
theorem dX5_play_28 : decode cX5_play 28 = .ok (.iastore, 1) := by decide +kernel
theorem dX5_play_29 : decode cX5_play 29 = .ok (.aload_n 0, 1) := by decide +kernel
theorem dX5_play_30 : decode cX5_play 30 = .ok (.getfield 59, 3) := by decide +kernel
theorem dX5_play_33 : decode cX5_play 33 = .ok (.iload 6, 2) := by decide +kernel
theorem dX5_play_35 : decode cX5_play 35 = .ok (.iconst 0, 1) := by decide +kernel
theorem dX5_play_36 : decode cX5_play 36 = .ok (.iastore, 1) := by decide +kernel
theorem dX5_play_37 : decode cX5_play 37 = .ok (.iload 5, 2) := by decide +kernel
theorem dX5_play_39 : decode cX5_play 39 = .ok (.iload 6, 2) := by decide +kernel
theorem dX5_play_41 : decode cX5_play 41 = .ok (.aload_n 0, 1) := by decide +kernel
theorem dX5_play_42 : decode cX5_play 42 = .ok (.getfield 86, 3) := by decide +kernel
theorem dX5_play_45 : decode cX5_play 45 = .ok (.if_icmp .ge 22, 3) := by decide +kernel
theorem dX5_play_48 : decode cX5_play 48 = .ok (.aload_n 0, 1) := by decide +kernel
theorem dX5_play_49 : decode cX5_play 49 = .ok (.getfield 32, 3) := by decide +kernel
theorem dX5_play_52 : decode cX5_play 52 = .ok (.bipush 12, 2) := by decide +kernel
theorem dX5_play_54 : decode cX5_play 54 = .ok (.iload_n 1, 1) := by decide +kernel
theorem dX5_play_55 : decode cX5_play 55 = .ok (.imul, 1) := by decide +kernel
theorem dX5_play_56 : decode cX5_play 56 = .ok (.iload 6, 2) := by decide +kernel
theorem dX5_play_58 : decode cX5_play 58 = .ok (.iadd, 1) := by decide +kernel
theorem dX5_play_59 : decode cX5_play 59 = .ok (.iaload, 1) := by decide +kernel
theorem dX5_play_60 : decode cX5_play 60 = .ok (.ifCond .lt 7, 3) := by decide +kernel
theorem dX5_play_63 : decode cX5_play 63 = .ok (.iconst 1, 1) := by decide +kernel
theorem dX5_play_64 : decode cX5_play 64 = .ok (.goto 4, 3) := by decide +kernel
theorem dX5_play_67 : decode cX5_play 67 = .ok (.iconst 0, 1) := by decide +kernel
theorem dX5_play_68 : decode cX5_play 68 = .ok (.iadd, 1) := by decide +kernel
theorem dX5_play_69 : decode cX5_play 69 = .ok (.istore 5, 2) := by decide +kernel
theorem dX5_play_71 : decode cX5_play 71 = .ok (.iinc 6 1, 3) := by decide +kernel
theorem dX5_play_74 : decode cX5_play 74 = .ok (.goto (-60), 3) := by decide +kernel
theorem dX5_play_77 : decode cX5_play 77 = .ok (.iconst 0, 1) := by decide +kernel
theorem dX5_play_78 : decode cX5_play 78 = .ok (.istore 6, 2) := by decide +kernel
theorem dX5_play_80 : decode cX5_play 80 = .ok (.iload 6, 2) := by decide +kernel
theorem dX5_play_82 : decode cX5_play 82 = .ok (.sipush 1440, 3) := by decide +kernel
theorem dX5_play_85 : decode cX5_play 85 = .ok (.if_icmp .ge 17, 3) := by decide +kernel
theorem dX5_play_88 : decode cX5_play 88 = .ok (.aload_n 0, 1) := by decide +kernel
theorem dX5_play_89 : decode cX5_play 89 = .ok (.getfield 62, 3) := by decide +kernel
theorem dX5_play_92 : decode cX5_play 92 = .ok (.iload 6, 2) := by decide +kernel
theorem dX5_play_94 : decode cX5_play 94 = .ok (.iconst 0, 1) := by decide +kernel
theorem dX5_play_95 : decode cX5_play 95 = .ok (.iastore, 1) := by decide +kernel
theorem dX5_play_96 : decode cX5_play 96 = .ok (.iinc 6 1, 3) := by decide +kernel
theorem dX5_play_99 : decode cX5_play 99 = .ok (.goto (-19), 3) := by decide +kernel
theorem dX5_play_102 : decode cX5_play 102 = .ok (.iconst 0, 1) := by decide +kernel
theorem dX5_play_103 : decode cX5_play 103 = .ok (.istore 6, 2) := by decide +kernel
theorem dX5_play_105 : decode cX5_play 105 = .ok (.iload 6, 2) := by decide +kernel
theorem dX5_play_107 : decode cX5_play 107 = .ok (.ldc 113, 2) := by decide +kernel
theorem dX5_play_109 : decode cX5_play 109 = .ok (.if_icmp .ge 88, 3) := by decide +kernel
theorem dX5_play_112 : decode cX5_play 112 = .ok (.aload_n 0, 1) := by decide +kernel
theorem dX5_play_113 : decode cX5_play 113 = .ok (.iload 6, 2) := by decide +kernel
theorem dX5_play_115 : decode cX5_play 115 = .ok (.invokevirtual 122, 3) := by decide +kernel
theorem dX5_play_118 : decode cX5_play 118 = .ok (.istore 7, 2) := by decide +kernel
theorem dX5_play_120 : decode cX5_play 120 = .ok (.iload 7, 2) := by decide +kernel
theorem dX5_play_122 : decode cX5_play 122 = .ok (.ifCond .ge 7, 3) := by decide +kernel
theorem dX5_play_125 : decode cX5_play 125 = .ok (.iconst (-1), 1) := by decide +kernel
theorem dX5_play_126 : decode cX5_play 126 = .ok (.goto 17, 3) := by decide +kernel
theorem dX5_play_129 : decode cX5_play 129 = .ok (.aload_n 0, 1) := by decide +kernel
theorem dX5_play_130 : decode cX5_play 130 = .ok (.iload_n 1, 1) := by decide +kernel
theorem dX5_play_131 : decode cX5_play 131 = .ok (.aload_n 0, 1) := by decide +kernel
theorem dX5_play_132 : decode cX5_play 132 = .ok (.getfield 38, 3) := by decide +kernel
theorem dX5_play_135 : decode cX5_play 135 = .ok (.iload 7, 2) := by decide +kernel
theorem dX5_play_137 : decode cX5_play 137 = .ok (.iaload, 1) := by decide +kernel
theorem dX5_play_138 : decode cX5_play 138 = .ok (.iload 6, 2) := by decide +kernel
theorem dX5_play_140 : decode cX5_play 140 = .ok (.invokevirtual 125, 3) := by decide +kernel
theorem dX5_play_143 : decode cX5_play 143 = .ok (.istore 8, 2) := by decide +kernel
theorem dX5_play_145 : decode cX5_play 145 = .ok (.iload 8, 2) := by decide +kernel
theorem dX5_play_147 : decode cX5_play 147 = .ok (.ifCond .lt 39, 3) := by decide +kernel
theorem dX5_play_150 : decode cX5_play 150 = .ok (.aload_n 0, 1) := by decide +kernel
theorem dX5_play_151 : decode cX5_play 151 = .ok (.iload 7, 2) := by decide +kernel
theorem dX5_play_153 : decode cX5_play 153 = .ok (.iload 8, 2) := by decide +kernel
theorem dX5_play_155 : decode cX5_play 155 = .ok (.aload_n 0, 1) := by decide +kernel
theorem dX5_play_156 : decode cX5_play 156 = .ok (.aload_n 0, 1) := by decide +kernel
theorem dX5_play_157 : decode cX5_play 157 = .ok (.getfield 32, 3) := by decide +kernel
theorem dX5_play_160 : decode cX5_play 160 = .ok (.bipush 12, 2) := by decide +kernel
theorem dX5_play_162 : decode cX5_play 162 = .ok (.iload_n 1, 1) := by decide +kernel
theorem dX5_play_163 : decode cX5_play 163 = .ok (.imul, 1) := by decide +kernel
theorem dX5_play_164 : decode cX5_play 164 = .ok (.iload 8, 2) := by decide +kernel
theorem dX5_play_166 : decode cX5_play 166 = .ok (.iadd, 1) := by decide +kernel
theorem dX5_play_167 : decode cX5_play 167 = .ok (.iaload, 1) := by decide +kernel
theorem dX5_play_168 : decode cX5_play 168 = .ok (.aload_n 0, 1) := by decide +kernel
theorem dX5_play_169 : decode cX5_play 169 = .ok (.getfield 38, 3) := by decide +kernel
theorem dX5_play_172 : decode cX5_play 172 = .ok (.iload 7, 2) := by decide +kernel
theorem dX5_play_174 : decode cX5_play 174 = .ok (.iaload, 1) := by decide +kernel
theorem dX5_play_175 : decode cX5_play 175 = .ok (.invokevirtual 114, 3) := by decide +kernel
theorem dX5_play_178 : decode cX5_play 178 = .ok (.iload 6, 2) := by decide +kernel
theorem dX5_play_180 : decode cX5_play 180 = .ok (.invokevirtual 128, 3) := by decide +kernel
theorem dX5_play_183 : decode cX5_play 183 = .ok (.goto 11, 3) := by decide +kernel
theorem dX5_play_186 : decode cX5_play 186 = .ok (.aload_n 0, 1) := by decide +kernel
theorem dX5_play_187 : decode cX5_play 187 = .ok (.iload 6, 2) := by decide +kernel
theorem dX5_play_189 : decode cX5_play 189 = .ok (.invokevirtual 132, 3) := by decide +kernel
theorem dX5_play_192 : decode cX5_play 192 = .ok (.istore 6, 2) := by decide +kernel
theorem dX5_play_194 : decode cX5_play 194 = .ok (.goto (-89), 3) := by decide +kernel
theorem dX5_play_197 : decode cX5_play 197 = .ok (.aload_n 0, 1) := by decide +kernel
theorem dX5_play_198 : decode cX5_play 198 = .ok (.iconst 0, 1) := by decide +kernel
theorem dX5_play_199 : decode cX5_play 199 = .ok (.putfield 135, 3) := by decide +kernel
theorem dX5_play_202 : decode cX5_play 202 = .ok (.iconst 0, 1) := by decide +kernel
theorem dX5_play_203 : decode cX5_play 203 = .ok (.istore 7, 2) := by decide +kernel
theorem dX5_play_205 : decode cX5_play 205 = .ok (.iload 7, 2) := by decide +kernel
theorem dX5_play_207 : decode cX5_play 207 = .ok (.sipush 1440, 3) := by decide +kernel
theorem dX5_play_210 : decode cX5_play 210 = .ok (.if_icmp .ge 35, 3) := by decide +kernel
theorem dX5_play_213 : decode cX5_play 213 = .ok (.aload_n 0, 1) := by decide +kernel
theorem dX5_play_214 : decode cX5_play 214 = .ok (.dup, 1) := by decide +kernel
theorem dX5_play_215 : decode cX5_play 215 = .ok (.getfield 135, 3) := by decide +kernel
theorem dX5_play_218 : decode cX5_play 218 = .ok (.aload_n 0, 1) := by decide +kernel
theorem dX5_play_219 : decode cX5_play 219 = .ok (.getfield 62, 3) := by decide +kernel
theorem dX5_play_222 : decode cX5_play 222 = .ok (.iload 7, 2) := by decide +kernel
theorem dX5_play_224 : decode cX5_play 224 = .ok (.iaload, 1) := by decide +kernel
theorem dX5_play_225 : decode cX5_play 225 = .ok (.iload 5, 2) := by decide +kernel
theorem dX5_play_227 : decode cX5_play 227 = .ok (.if_icmp .ne 7, 3) := by decide +kernel
theorem dX5_play_230 : decode cX5_play 230 = .ok (.iconst 1, 1) := by decide +kernel
theorem dX5_play_231 : decode cX5_play 231 = .ok (.goto 4, 3) := by decide +kernel
theorem dX5_play_234 : decode cX5_play 234 = .ok (.iconst 0, 1) := by decide +kernel
theorem dX5_play_235 : decode cX5_play 235 = .ok (.iadd, 1) := by decide +kernel
theorem dX5_play_236 : decode cX5_play 236 = .ok (.putfield 135, 3) := by decide +kernel
theorem dX5_play_239 : decode cX5_play 239 = .ok (.iinc 7 1, 3) := by decide +kernel
theorem dX5_play_242 : decode cX5_play 242 = .ok (.goto (-37), 3) := by decide +kernel
theorem dX5_play_245 : decode cX5_play 245 = .ok (.return_, 1) := by decide +kernel
theorem dX5_forget_0 : decode cX5_forget 0 = .ok (.aload_n 0, 1) := by decide +kernel
theorem dX5_forget_1 : decode cX5_forget 1 = .ok (.iconst 0, 1) := by decide +kernel
theorem dX5_forget_2 : decode cX5_forget 2 = .ok (.putfield 99, 3) := by decide +kernel
theorem dX5_forget_5 : decode cX5_forget 5 = .ok (.aload_n 0, 1) := by decide +kernel
theorem dX5_forget_6 : decode cX5_forget 6 = .ok (.iconst 0, 1) := by decide +kernel
theorem dX5_forget_7 : decode cX5_forget 7 = .ok (.putfield 135, 3) := by decide +kernel
theorem dX5_forget_10 : decode cX5_forget 10 = .ok (.iconst 0, 1) := by decide +kernel
theorem dX5_forget_11 : decode cX5_forget 11 = .ok (.istore_n 1, 1) := by decide +kernel
theorem dX5_forget_12 : decode cX5_forget 12 = .ok (.iload_n 1, 1) := by decide +kernel
theorem dX5_forget_13 : decode cX5_forget 13 = .ok (.bipush 12, 2) := by decide +kernel
theorem dX5_forget_15 : decode cX5_forget 15 = .ok (.if_icmp .ge 16, 3) := by decide +kernel
theorem dX5_forget_18 : decode cX5_forget 18 = .ok (.aload_n 0, 1) := by decide +kernel
theorem dX5_forget_19 : decode cX5_forget 19 = .ok (.getfield 59, 3) := by decide +kernel
theorem dX5_forget_22 : decode cX5_forget 22 = .ok (.iload_n 1, 1) := by decide +kernel
theorem dX5_forget_23 : decode cX5_forget 23 = .ok (.iconst 0, 1) := by decide +kernel
theorem dX5_forget_24 : decode cX5_forget 24 = .ok (.iastore, 1) := by decide +kernel
theorem dX5_forget_25 : decode cX5_forget 25 = .ok (.iinc 1 1, 3) := by decide +kernel
theorem dX5_forget_28 : decode cX5_forget 28 = .ok (.goto (-16), 3) := by decide +kernel
theorem dX5_forget_31 : decode cX5_forget 31 = .ok (.return_, 1) := by decide +kernel
theorem dX5_isLate_0 : decode cX5_isLate 0 = .ok (.aload_n 0, 1) := by decide +kernel
theorem dX5_isLate_1 : decode cX5_isLate 1 = .ok (.getfield 47, 3) := by decide +kernel
theorem dX5_isLate_4 : decode cX5_isLate 4 = .ok (.iload_n 1, 1) := by decide +kernel
theorem dX5_isLate_5 : decode cX5_isLate 5 = .ok (.iaload, 1) := by decide +kernel
theorem dX5_isLate_6 : decode cX5_isLate 6 = .ok (.ifCond .lt 23, 3) := by decide +kernel
theorem dX5_isLate_9 : decode cX5_isLate 9 = .ok (.aload_n 0, 1) := by decide +kernel
theorem dX5_isLate_10 : decode cX5_isLate 10 = .ok (.getfield 50, 3) := by decide +kernel
theorem dX5_isLate_13 : decode cX5_isLate 13 = .ok (.iload_n 1, 1) := by decide +kernel
theorem dX5_isLate_14 : decode cX5_isLate 14 = .ok (.iaload, 1) := by decide +kernel
theorem dX5_isLate_15 : decode cX5_isLate 15 = .ok (.aload_n 0, 1) := by decide +kernel
theorem dX5_isLate_16 : decode cX5_isLate 16 = .ok (.getfield 35, 3) := by decide +kernel
theorem dX5_isLate_19 : decode cX5_isLate 19 = .ok (.iload_n 1, 1) := by decide +kernel
theorem dX5_isLate_20 : decode cX5_isLate 20 = .ok (.iaload, 1) := by decide +kernel
theorem dX5_isLate_21 : decode cX5_isLate 21 = .ok (.isub, 1) := by decide +kernel
theorem dX5_isLate_22 : decode cX5_isLate 22 = .ok (.aload_n 0, 1) := by decide +kernel
theorem dX5_isLate_23 : decode cX5_isLate 23 = .ok (.getfield 13, 3) := by decide +kernel
theorem dX5_isLate_26 : decode cX5_isLate 26 = .ok (.if_icmp .le 7, 3) := by decide +kernel
theorem dX5_isLate_29 : decode cX5_isLate 29 = .ok (.iconst 1, 1) := by decide +kernel
theorem dX5_isLate_30 : decode cX5_isLate 30 = .ok (.goto 4, 3) := by decide +kernel
theorem dX5_isLate_33 : decode cX5_isLate 33 = .ok (.iconst 0, 1) := by decide +kernel
theorem dX5_isLate_34 : decode cX5_isLate 34 = .ok (.ireturn, 1) := by decide +kernel
set_option maxRecDepth 20000 in
theorem ggX5_late_X5_isLate : GoodIn wsX5_late wsX5_isLate := goodIn_r _ [6, 7, 8, 9, 10, 11, 12, 13, 14, 15, 16, 17, 18, 19, 20, 21, 22, 23, 24, 25, 26, 27, 28, 29, 30, 31, 32, 33, 34] (by decide +kernel) (by decide +kernel)
set_option maxRecDepth 20000 in
theorem gX5_late_X5_isLate : GoodIn wsX5_late (wsV RX5 138 RX5 yX5_isLate wsX5_isLate) := goodIn_app (goodIn_of _ (by decide +kernel)) ggX5_late_X5_isLate
theorem dX5_late_0 : decode cX5_late 0 = .ok (.iconst 0, 1) := by decide +kernel
theorem dX5_late_1 : decode cX5_late 1 = .ok (.istore_n 1, 1) := by decide +kernel
theorem dX5_late_2 : decode cX5_late 2 = .ok (.iconst 0, 1) := by decide +kernel
theorem dX5_late_3 : decode cX5_late 3 = .ok (.istore_n 2, 1) := by decide +kernel
theorem dX5_late_4 : decode cX5_late 4 = .ok (.iload_n 2, 1) := by decide +kernel
theorem dX5_late_5 : decode cX5_late 5 = .ok (.aload_n 0, 1) := by decide +kernel
theorem dX5_late_6 : decode cX5_late 6 = .ok (.getfield 99, 3) := by decide +kernel
theorem dX5_late_9 : decode cX5_late 9 = .ok (.if_icmp .ge 25, 3) := by decide +kernel
theorem dX5_late_12 : decode cX5_late 12 = .ok (.iload_n 1, 1) := by decide +kernel
theorem dX5_late_13 : decode cX5_late 13 = .ok (.aload_n 0, 1) := by decide +kernel
theorem dX5_late_14 : decode cX5_late 14 = .ok (.iload_n 2, 1) := by decide +kernel
theorem dX5_late_15 : decode cX5_late 15 = .ok (.invokevirtual 138, 3) := by decide +kernel
theorem dX5_late_18 : decode cX5_late 18 = .ok (.ifCond .eq 7, 3) := by decide +kernel
theorem dX5_late_21 : decode cX5_late 21 = .ok (.iconst 1, 1) := by decide +kernel
theorem dX5_late_22 : decode cX5_late 22 = .ok (.goto 4, 3) := by decide +kernel
theorem dX5_late_25 : decode cX5_late 25 = .ok (.iconst 0, 1) := by decide +kernel
theorem dX5_late_26 : decode cX5_late 26 = .ok (.iadd, 1) := by decide +kernel
theorem dX5_late_27 : decode cX5_late 27 = .ok (.istore_n 1, 1) := by decide +kernel
theorem dX5_late_28 : decode cX5_late 28 = .ok (.iinc 2 1, 3) := by decide +kernel
theorem dX5_late_31 : decode cX5_late 31 = .ok (.goto (-27), 3) := by decide +kernel
theorem dX5_late_34 : decode cX5_late 34 = .ok (.iload_n 1, 1) := by decide +kernel
theorem dX5_late_35 : decode cX5_late 35 = .ok (.ireturn, 1) := by decide +kernel
set_option maxRecDepth 20000 in
theorem ggX5_isDay_X5_in : GoodIn wsX5_isDay wsX5_in := goodIn_r _ [4] (by decide +kernel) (by decide +kernel)
set_option maxRecDepth 20000 in
theorem gX5_isDay_X5_in : GoodIn wsX5_isDay (va_wsS RX5 68 yX5_in wsX5_in) := goodIn_app (goodIn_of _ (by decide +kernel)) ggX5_isDay_X5_in
theorem dX5_isDay_0 : decode cX5_isDay 0 = .ok (.iload_n 0, 1) := by decide +kernel
theorem dX5_isDay_1 : decode cX5_isDay 1 = .ok (.iconst 0, 1) := by decide +kernel
theorem dX5_isDay_2 : decode cX5_isDay 2 = .ok (.sipush 999, 3) := by decide +kernel
theorem dX5_isDay_5 : decode cX5_isDay 5 = .ok (.invokestatic 68, 3) := by decide +kernel
theorem dX5_isDay_8 : decode cX5_isDay 8 = .ok (.ireturn, 1) := by decide +kernel
set_option maxRecDepth 20000 in
theorem ggX5_run_X5_in : GoodIn wsX5_run wsX5_in := goodIn_r _ [5] (by decide +kernel) (by decide +kernel)
set_option maxRecDepth 20000 in
theorem gX5_run_X5_in : GoodIn wsX5_run (va_wsS RX5 68 yX5_in wsX5_in) := goodIn_app (goodIn_of _ (by decide +kernel)) ggX5_run_X5_in
set_option maxRecDepth 20000 in
theorem ggX5_run_X5_isDay : GoodIn wsX5_run wsX5_isDay := goodIn_r _ [8, 2, 3, 4, 5] (by decide +kernel) (by decide +kernel)
set_option maxRecDepth 20000 in
theorem gX5_run_X5_isDay : GoodIn wsX5_run (va_wsS RX5 141 yX5_isDay wsX5_isDay) := goodIn_app (goodIn_of _ (by decide +kernel)) ggX5_run_X5_isDay
set_option maxRecDepth 20000 in
theorem ggX5_run_X5_throwing : GoodIn wsX5_run wsX5_throwing := goodIn_r _ [12, 13, 85, 86, 87, 88, 89, 90, 91, 92, 93, 94, 95, 96, 97, 98, 99, 100, 101, 102, 103, 104, 105, 106, 107, 108] (by decide +kernel) (by decide +kernel)
set_option maxRecDepth 20000 in
theorem gX5_run_X5_throwing : GoodIn wsX5_run (wsV RX5 79 RX5 yX5_throwing wsX5_throwing) := goodIn_app (goodIn_of _ (by decide +kernel)) ggX5_run_X5_throwing
set_option maxRecDepth 20000 in
theorem ggX5_run_X5_play : GoodIn wsX5_run wsX5_play := goodIn_r _ [17, 18, 19, 20, 21, 22, 23, 24, 25, 26, 27, 28, 4, 29, 30, 31, 32, 33, 34, 35, 36, 37, 38, 39, 40, 41, 42, 43, 44, 45, 46, 1, 47, 48, 49, 50, 51, 52, 53, 54, 55, 56, 57, 58, 59, 60, 61, 62, 63, 64, 65, 66, 67, 68, 69, 70, 71, 72, 73, 74, 75, 85, 86, 87, 88, 89, 90, 91, 92, 93, 94, 95, 96, 97, 98, 99, 100, 101, 102, 103, 104, 105, 106, 107, 108] (by decide +kernel) (by decide +kernel)
set_option maxRecDepth 20000 in
theorem gX5_run_X5_play : GoodIn wsX5_run (wsV RX5 144 RX5 yX5_play wsX5_play) := goodIn_app (goodIn_of _ (by decide +kernel)) ggX5_run_X5_play
set_option maxRecDepth 20000 in
theorem ggX5_run_X5_late : GoodIn wsX5_run wsX5_late := goodIn_r _ [79, 30, 80, 81, 82, 4, 83, 35, 36, 32, 84, 85, 86, 87, 88, 89, 90, 91, 92, 93, 94, 95, 96, 97, 98, 99, 100, 101, 102, 103, 104, 105, 106, 107, 108] (by decide +kernel) (by decide +kernel)
set_option maxRecDepth 20000 in
theorem gX5_run_X5_late : GoodIn wsX5_run (wsV RX5 147 RX5 yX5_late wsX5_late) := goodIn_app (goodIn_of _ (by decide +kernel)) ggX5_run_X5_late
theorem dX5_run_0 : decode cX5_run 0 = .ok (.aload_n 0, 1) := by decide +kernel
theorem dX5_run_1 : decode cX5_run 1 = .ok (.iload_n 1, 1) := by decide +kernel
theorem dX5_run_2 : decode cX5_run 2 = .ok (.iconst 0, 1) := by decide +kernel
theorem dX5_run_3 : decode cX5_run 3 = .ok (.iconst 3, 1) := by decide +kernel
theorem dX5_run_4 : decode cX5_run 4 = .ok (.invokestatic 68, 3) := by decide +kernel
theorem dX5_run_7 : decode cX5_run 7 = .ok (.ifCond .ne 7, 3) := by decide +kernel
theorem dX5_run_10 : decode cX5_run 10 = .ok (.iconst 1, 1) := by decide +kernel
theorem dX5_run_11 : decode cX5_run 11 = .ok (.goto 4, 3) := by decide +kernel
theorem dX5_run_14 : decode cX5_run 14 = .ok (.iconst 0, 1) := by decide +kernel
theorem dX5_run_15 : decode cX5_run 15 = .ok (.iload_n 3, 1) := by decide +kernel
theorem dX5_run_16 : decode cX5_run 16 = .ok (.invokestatic 141, 3) := by decide +kernel
theorem dX5_run_19 : decode cX5_run 19 = .ok (.ifCond .eq 14, 3) := by decide +kernel
theorem dX5_run_22 : decode cX5_run 22 = .ok (.iload 4, 2) := by decide +kernel
theorem dX5_run_24 : decode cX5_run 24 = .ok (.iconst 0, 1) := by decide +kernel
theorem dX5_run_25 : decode cX5_run 25 = .ok (.bipush 60, 2) := by decide +kernel
theorem dX5_run_27 : decode cX5_run 27 = .ok (.invokestatic 68, 3) := by decide +kernel
theorem dX5_run_30 : decode cX5_run 30 = .ok (.ifCond .ne 7, 3) := by decide +kernel
theorem dX5_run_33 : decode cX5_run 33 = .ok (.iconst 1, 1) := by decide +kernel
theorem dX5_run_34 : decode cX5_run 34 = .ok (.goto 4, 3) := by decide +kernel
theorem dX5_run_37 : decode cX5_run 37 = .ok (.iconst 0, 1) := by decide +kernel
theorem dX5_run_38 : decode cX5_run 38 = .ok (.iload 4, 2) := by decide +kernel
theorem dX5_run_40 : decode cX5_run 40 = .ok (.ifCond .le 14, 3) := by decide +kernel
theorem dX5_run_43 : decode cX5_run 43 = .ok (.aload_n 0, 1) := by decide +kernel
theorem dX5_run_44 : decode cX5_run 44 = .ok (.getfield 83, 3) := by decide +kernel
theorem dX5_run_47 : decode cX5_run 47 = .ok (.ifCond .ne 7, 3) := by decide +kernel
theorem dX5_run_50 : decode cX5_run 50 = .ok (.iconst 1, 1) := by decide +kernel
theorem dX5_run_51 : decode cX5_run 51 = .ok (.goto 4, 3) := by decide +kernel
theorem dX5_run_54 : decode cX5_run 54 = .ok (.iconst 0, 1) := by decide +kernel
theorem dX5_run_55 : decode cX5_run 55 = .ok (.invokevirtual 79, 3) := by decide +kernel
theorem dX5_run_58 : decode cX5_run 58 = .ok (.ifCond .eq 5, 3) := by decide +kernel
theorem dX5_run_61 : decode cX5_run 61 = .ok (.iconst 0, 1) := by decide +kernel
theorem dX5_run_62 : decode cX5_run 62 = .ok (.ireturn, 1) := by decide +kernel
theorem dX5_run_63 : decode cX5_run 63 = .ok (.aload_n 0, 1) := by decide +kernel
theorem dX5_run_64 : decode cX5_run 64 = .ok (.iload_n 1, 1) := by decide +kernel
theorem dX5_run_65 : decode cX5_run 65 = .ok (.iload_n 2, 1) := by decide +kernel
theorem dX5_run_66 : decode cX5_run 66 = .ok (.iload_n 3, 1) := by decide +kernel
theorem dX5_run_67 : decode cX5_run 67 = .ok (.iload 4, 2) := by decide +kernel
theorem dX5_run_69 : decode cX5_run 69 = .ok (.invokevirtual 144, 3) := by decide +kernel
theorem dX5_run_72 : decode cX5_run 72 = .ok (.aload_n 0, 1) := by decide +kernel
theorem dX5_run_73 : decode cX5_run 73 = .ok (.invokevirtual 147, 3) := by decide +kernel
theorem dX5_run_76 : decode cX5_run 76 = .ok (.ireturn, 1) := by decide +kernel
set_option maxRecDepth 20000 in
theorem ggX5_reason_X5_isLate : GoodIn wsX5_reason wsX5_isLate := goodIn_r _ [8, 1, 9, 10, 3, 11, 12, 13, 14, 15, 16, 17, 18, 19, 20, 21, 22, 23, 24, 25, 26, 27, 28, 29, 30, 31, 32, 33, 34] (by decide +kernel) (by decide +kernel)
set_option maxRecDepth 20000 in
theorem gX5_reason_X5_isLate : GoodIn wsX5_reason (wsV RX5 138 RX5 yX5_isLate wsX5_isLate) := goodIn_app (goodIn_of _ (by decide +kernel)) ggX5_reason_X5_isLate
theorem dX5_reason_0 : decode cX5_reason 0 = .ok (.aload_n 0, 1) := by decide +kernel
theorem dX5_reason_1 : decode cX5_reason 1 = .ok (.iload_n 1, 1) := by decide +kernel
theorem dX5_reason_2 : decode cX5_reason 2 = .ok (.invokevirtual 138, 3) := by decide +kernel
theorem dX5_reason_5 : decode cX5_reason 5 = .ok (.ifCond .ne 5, 3) := by decide +kernel
theorem dX5_reason_8 : decode cX5_reason 8 = .ok (.iconst 0, 1) := by decide +kernel
theorem dX5_reason_9 : decode cX5_reason 9 = .ok (.ireturn, 1) := by decide +kernel
theorem dX5_reason_10 : decode cX5_reason 10 = .ok (.aload_n 0, 1) := by decide +kernel
theorem dX5_reason_11 : decode cX5_reason 11 = .ok (.getfield 47, 3) := by decide +kernel
theorem dX5_reason_14 : decode cX5_reason 14 = .ok (.iload_n 1, 1) := by decide +kernel
theorem dX5_reason_15 : decode cX5_reason 15 = .ok (.iaload, 1) := by decide +kernel
theorem dX5_reason_16 : decode cX5_reason 16 = .ok (.ifCond .ge 7, 3) := by decide +kernel
theorem dX5_reason_19 : decode cX5_reason 19 = .ok (.iconst 3, 1) := by decide +kernel
theorem dX5_reason_20 : decode cX5_reason 20 = .ok (.goto 21, 3) := by decide +kernel
theorem dX5_reason_23 : decode cX5_reason 23 = .ok (.aload_n 0, 1) := by decide +kernel
theorem dX5_reason_24 : decode cX5_reason 24 = .ok (.getfield 53, 3) := by decide +kernel
theorem dX5_reason_27 : decode cX5_reason 27 = .ok (.iload_n 1, 1) := by decide +kernel
theorem dX5_reason_28 : decode cX5_reason 28 = .ok (.iaload, 1) := by decide +kernel
theorem dX5_reason_29 : decode cX5_reason 29 = .ok (.aload_n 0, 1) := by decide +kernel
theorem dX5_reason_30 : decode cX5_reason 30 = .ok (.getfield 13, 3) := by decide +kernel
theorem dX5_reason_33 : decode cX5_reason 33 = .ok (.if_icmp .le 7, 3) := by decide +kernel
theorem dX5_reason_36 : decode cX5_reason 36 = .ok (.iconst 2, 1) := by decide +kernel
theorem dX5_reason_37 : decode cX5_reason 37 = .ok (.goto 4, 3) := by decide +kernel
theorem dX5_reason_40 : decode cX5_reason 40 = .ok (.iconst 1, 1) := by decide +kernel
theorem dX5_reason_41 : decode cX5_reason 41 = .ok (.ireturn, 1) := by decide +kernel
set_option maxRecDepth 20000 in
theorem ggX5_call_X5_in : GoodIn wsX5_call wsX5_in := goodIn_r _ [10] (by decide +kernel) (by decide +kernel)
set_option maxRecDepth 20000 in
theorem gX5_call_X5_in : GoodIn wsX5_call (va_wsS RX5 68 yX5_in wsX5_in) := goodIn_app (goodIn_of _ (by decide +kernel)) ggX5_call_X5_in
set_option maxRecDepth 20000 in
theorem ggX5_call_X5_throwing : GoodIn wsX5_call wsX5_throwing := goodIn_r _ [14, 15, 26, 27, 28, 29, 30, 31, 32, 33, 34, 35, 36, 37, 38, 39, 40, 41, 42, 43, 44, 45, 46, 47, 48, 49] (by decide +kernel) (by decide +kernel)
set_option maxRecDepth 20000 in
theorem gX5_call_X5_throwing : GoodIn wsX5_call (wsV RX5 79 RX5 yX5_throwing wsX5_throwing) := goodIn_app (goodIn_of _ (by decide +kernel)) ggX5_call_X5_throwing
set_option maxRecDepth 20000 in
theorem ggX5_call_X5_reason : GoodIn wsX5_call wsX5_reason := goodIn_r _ [19, 5, 20, 21, 22, 23, 24, 9, 25, 6, 2, 26, 27, 28, 29, 30, 31, 32, 33, 34, 35, 36, 37, 38, 39, 40, 41, 42, 43, 44, 45, 46, 47, 48, 49] (by decide +kernel) (by decide +kernel)
set_option maxRecDepth 20000 in
theorem gX5_call_X5_reason : GoodIn wsX5_call (wsV RX5 151 RX5 yX5_reason wsX5_reason) := goodIn_app (goodIn_of _ (by decide +kernel)) ggX5_call_X5_reason
theorem dX5_call_0 : decode cX5_call 0 = .ok (.aload_n 0, 1) := by decide +kernel
theorem dX5_call_1 : decode cX5_call 1 = .ok (.iload_n 1, 1) := by decide +kernel
theorem dX5_call_2 : decode cX5_call 2 = .ok (.iconst 0, 1) := by decide +kernel
theorem dX5_call_3 : decode cX5_call 3 = .ok (.aload_n 0, 1) := by decide +kernel
theorem dX5_call_4 : decode cX5_call 4 = .ok (.getfield 99, 3) := by decide +kernel
theorem dX5_call_7 : decode cX5_call 7 = .ok (.iconst 1, 1) := by decide +kernel
theorem dX5_call_8 : decode cX5_call 8 = .ok (.isub, 1) := by decide +kernel
theorem dX5_call_9 : decode cX5_call 9 = .ok (.invokestatic 68, 3) := by decide +kernel
theorem dX5_call_12 : decode cX5_call 12 = .ok (.ifCond .eq 12, 3) := by decide +kernel
theorem dX5_call_15 : decode cX5_call 15 = .ok (.iload_n 2, 1) := by decide +kernel
theorem dX5_call_16 : decode cX5_call 16 = .ok (.iconst 0, 1) := by decide +kernel
theorem dX5_call_17 : decode cX5_call 17 = .ok (.iconst 5, 1) := by decide +kernel
theorem dX5_call_18 : decode cX5_call 18 = .ok (.invokestatic 68, 3) := by decide +kernel
theorem dX5_call_21 : decode cX5_call 21 = .ok (.ifCond .ne 7, 3) := by decide +kernel
theorem dX5_call_24 : decode cX5_call 24 = .ok (.iconst 1, 1) := by decide +kernel
theorem dX5_call_25 : decode cX5_call 25 = .ok (.goto 4, 3) := by decide +kernel
theorem dX5_call_28 : decode cX5_call 28 = .ok (.iconst 0, 1) := by decide +kernel
theorem dX5_call_29 : decode cX5_call 29 = .ok (.iconst 0, 1) := by decide +kernel
theorem dX5_call_30 : decode cX5_call 30 = .ok (.iconst 0, 1) := by decide +kernel
theorem dX5_call_31 : decode cX5_call 31 = .ok (.invokevirtual 79, 3) := by decide +kernel
theorem dX5_call_34 : decode cX5_call 34 = .ok (.ifCond .eq 5, 3) := by decide +kernel
theorem dX5_call_37 : decode cX5_call 37 = .ok (.iconst 0, 1) := by decide +kernel
theorem dX5_call_38 : decode cX5_call 38 = .ok (.ireturn, 1) := by decide +kernel
theorem dX5_call_39 : decode cX5_call 39 = .ok (.iload_n 2, 1) := by decide +kernel
theorem dX5_call_40 : decode cX5_call 40 = .ok (.tableswitch 91 0 4 #[36, 43, 50, 57, 64], 36) := by decide +kernel
theorem dX5_call_76 : decode cX5_call 76 = .ok (.aload_n 0, 1) := by decide +kernel
theorem dX5_call_77 : decode cX5_call 77 = .ok (.getfield 35, 3) := by decide +kernel
theorem dX5_call_80 : decode cX5_call 80 = .ok (.iload_n 1, 1) := by decide +kernel
theorem dX5_call_81 : decode cX5_call 81 = .ok (.iaload, 1) := by decide +kernel
theorem dX5_call_82 : decode cX5_call 82 = .ok (.ireturn, 1) := by decide +kernel
theorem dX5_call_83 : decode cX5_call 83 = .ok (.aload_n 0, 1) := by decide +kernel
theorem dX5_call_84 : decode cX5_call 84 = .ok (.getfield 38, 3) := by decide +kernel
theorem dX5_call_87 : decode cX5_call 87 = .ok (.iload_n 1, 1) := by decide +kernel
theorem dX5_call_88 : decode cX5_call 88 = .ok (.iaload, 1) := by decide +kernel
theorem dX5_call_89 : decode cX5_call 89 = .ok (.ireturn, 1) := by decide +kernel
theorem dX5_call_90 : decode cX5_call 90 = .ok (.aload_n 0, 1) := by decide +kernel
theorem dX5_call_91 : decode cX5_call 91 = .ok (.getfield 41, 3) := by decide +kernel
theorem dX5_call_94 : decode cX5_call 94 = .ok (.iload_n 1, 1) := by decide +kernel
theorem dX5_call_95 : decode cX5_call 95 = .ok (.iaload, 1) := by decide +kernel
theorem dX5_call_96 : decode cX5_call 96 = .ok (.ireturn, 1) := by decide +kernel
theorem dX5_call_97 : decode cX5_call 97 = .ok (.aload_n 0, 1) := by decide +kernel
theorem dX5_call_98 : decode cX5_call 98 = .ok (.getfield 47, 3) := by decide +kernel
theorem dX5_call_101 : decode cX5_call 101 = .ok (.iload_n 1, 1) := by decide +kernel
theorem dX5_call_102 : decode cX5_call 102 = .ok (.iaload, 1) := by decide +kernel
theorem dX5_call_103 : decode cX5_call 103 = .ok (.ireturn, 1) := by decide +kernel
theorem dX5_call_104 : decode cX5_call 104 = .ok (.aload_n 0, 1) := by decide +kernel
theorem dX5_call_105 : decode cX5_call 105 = .ok (.getfield 47, 3) := by decide +kernel
theorem dX5_call_108 : decode cX5_call 108 = .ok (.iload_n 1, 1) := by decide +kernel
theorem dX5_call_109 : decode cX5_call 109 = .ok (.iaload, 1) := by decide +kernel
theorem dX5_call_110 : decode cX5_call 110 = .ok (.ifCond .ge 7, 3) := by decide +kernel
theorem dX5_call_113 : decode cX5_call 113 = .ok (.iconst (-1), 1) := by decide +kernel
theorem dX5_call_114 : decode cX5_call 114 = .ok (.goto 16, 3) := by decide +kernel
theorem dX5_call_117 : decode cX5_call 117 = .ok (.aload_n 0, 1) := by decide +kernel
theorem dX5_call_118 : decode cX5_call 118 = .ok (.getfield 50, 3) := by decide +kernel
theorem dX5_call_121 : decode cX5_call 121 = .ok (.iload_n 1, 1) := by decide +kernel
theorem dX5_call_122 : decode cX5_call 122 = .ok (.iaload, 1) := by decide +kernel
theorem dX5_call_123 : decode cX5_call 123 = .ok (.aload_n 0, 1) := by decide +kernel
theorem dX5_call_124 : decode cX5_call 124 = .ok (.getfield 35, 3) := by decide +kernel
theorem dX5_call_127 : decode cX5_call 127 = .ok (.iload_n 1, 1) := by decide +kernel
theorem dX5_call_128 : decode cX5_call 128 = .ok (.iaload, 1) := by decide +kernel
theorem dX5_call_129 : decode cX5_call 129 = .ok (.isub, 1) := by decide +kernel
theorem dX5_call_130 : decode cX5_call 130 = .ok (.ireturn, 1) := by decide +kernel
theorem dX5_call_131 : decode cX5_call 131 = .ok (.aload_n 0, 1) := by decide +kernel
theorem dX5_call_132 : decode cX5_call 132 = .ok (.iload_n 1, 1) := by decide +kernel
theorem dX5_call_133 : decode cX5_call 133 = .ok (.invokevirtual 151, 3) := by decide +kernel
theorem dX5_call_136 : decode cX5_call 136 = .ok (.ireturn, 1) := by decide +kernel
theorem dX5_common_0 : decode cX5_common 0 = .ok (.lload_n 0, 1) := by decide +kernel
theorem dX5_common_1 : decode cX5_common 1 = .ok (.lstore 4, 2) := by decide +kernel
theorem dX5_common_3 : decode cX5_common 3 = .ok (.lload_n 2, 1) := by decide +kernel
theorem dX5_common_4 : decode cX5_common 4 = .ok (.lstore 6, 2) := by decide +kernel
theorem dX5_common_6 : decode cX5_common 6 = .ok (.lload 6, 2) := by decide +kernel
theorem dX5_common_8 : decode cX5_common 8 = .ok (.lconst 0, 1) := by decide +kernel
theorem dX5_common_9 : decode cX5_common 9 = .ok (.lcmp, 1) := by decide +kernel
theorem dX5_common_10 : decode cX5_common 10 = .ok (.ifCond .le 21, 3) := by decide +kernel
theorem dX5_common_13 : decode cX5_common 13 = .ok (.lload 4, 2) := by decide +kernel
theorem dX5_common_15 : decode cX5_common 15 = .ok (.lload 6, 2) := by decide +kernel
theorem dX5_common_17 : decode cX5_common 17 = .ok (.lrem, 1) := by decide +kernel
theorem dX5_common_18 : decode cX5_common 18 = .ok (.lstore 8, 2) := by decide +kernel
theorem dX5_common_20 : decode cX5_common 20 = .ok (.lload 6, 2) := by decide +kernel
theorem dX5_common_22 : decode cX5_common 22 = .ok (.lstore 4, 2) := by decide +kernel
theorem dX5_common_24 : decode cX5_common 24 = .ok (.lload 8, 2) := by decide +kernel
theorem dX5_common_26 : decode cX5_common 26 = .ok (.lstore 6, 2) := by decide +kernel
theorem dX5_common_28 : decode cX5_common 28 = .ok (.goto (-22), 3) := by decide +kernel
theorem dX5_common_31 : decode cX5_common 31 = .ok (.lload 4, 2) := by decide +kernel
theorem dX5_common_33 : decode cX5_common 33 = .ok (.lreturn, 1) := by decide +kernel
set_option maxRecDepth 20000 in
theorem ggX5_share_X5_in : GoodIn wsX5_share wsX5_in := goodIn_r _ [5] (by decide +kernel) (by decide +kernel)
set_option maxRecDepth 20000 in
theorem gX5_share_X5_in : GoodIn wsX5_share (va_wsS RX5 68 yX5_in wsX5_in) := goodIn_app (goodIn_of _ (by decide +kernel)) ggX5_share_X5_in
set_option maxRecDepth 20000 in
theorem ggX5_share_X5_throwing : GoodIn wsX5_share wsX5_throwing := goodIn_r _ [9, 10, 26, 27, 28, 29, 30, 31, 32, 33, 34, 35, 36, 37, 38, 39, 40, 41, 42, 43, 44, 45, 46, 47, 48, 49] (by decide +kernel) (by decide +kernel)
set_option maxRecDepth 20000 in
theorem gX5_share_X5_throwing : GoodIn wsX5_share (wsV RX5 79 RX5 yX5_throwing wsX5_throwing) := goodIn_app (goodIn_of _ (by decide +kernel)) ggX5_share_X5_throwing
set_option maxRecDepth 20000 in
theorem ggX5_share_X5_late : GoodIn wsX5_share wsX5_late := goodIn_r _ [14, 1, 15, 16, 17, 4, 18, 19, 20, 21, 22, 26, 27, 28, 29, 30, 31, 32, 33, 34, 35, 36, 37, 38, 39, 40, 41, 42, 43, 44, 45, 46, 47, 48, 49] (by decide +kernel) (by decide +kernel)
set_option maxRecDepth 20000 in
theorem gX5_share_X5_late : GoodIn wsX5_share (wsV RX5 147 RX5 yX5_late wsX5_late) := goodIn_app (goodIn_of _ (by decide +kernel)) ggX5_share_X5_late
set_option maxRecDepth 20000 in
theorem ggX5_share_X5_common : GoodIn wsX5_share wsX5_common := goodIn_r _ [25] (by decide +kernel) (by decide +kernel)
set_option maxRecDepth 20000 in
theorem gX5_share_X5_common : GoodIn wsX5_share (va_wsS RX5 154 yX5_common wsX5_common) := goodIn_app (goodIn_of _ (by decide +kernel)) ggX5_share_X5_common
theorem dX5_share_0 : decode cX5_share 0 = .ok (.aload_n 0, 1) := by decide +kernel
theorem dX5_share_1 : decode cX5_share 1 = .ok (.iload_n 1, 1) := by decide +kernel
theorem dX5_share_2 : decode cX5_share 2 = .ok (.iconst 0, 1) := by decide +kernel
theorem dX5_share_3 : decode cX5_share 3 = .ok (.iconst 1, 1) := by decide +kernel
theorem dX5_share_4 : decode cX5_share 4 = .ok (.invokestatic 68, 3) := by decide +kernel
theorem dX5_share_7 : decode cX5_share 7 = .ok (.ifCond .ne 7, 3) := by decide +kernel
theorem dX5_share_10 : decode cX5_share 10 = .ok (.iconst 1, 1) := by decide +kernel
theorem dX5_share_11 : decode cX5_share 11 = .ok (.goto 4, 3) := by decide +kernel
theorem dX5_share_14 : decode cX5_share 14 = .ok (.iconst 0, 1) := by decide +kernel
theorem dX5_share_15 : decode cX5_share 15 = .ok (.aload_n 0, 1) := by decide +kernel
theorem dX5_share_16 : decode cX5_share 16 = .ok (.getfield 99, 3) := by decide +kernel
theorem dX5_share_19 : decode cX5_share 19 = .ok (.ifCond .ne 7, 3) := by decide +kernel
theorem dX5_share_22 : decode cX5_share 22 = .ok (.iconst 1, 1) := by decide +kernel
theorem dX5_share_23 : decode cX5_share 23 = .ok (.goto 4, 3) := by decide +kernel
theorem dX5_share_26 : decode cX5_share 26 = .ok (.iconst 0, 1) := by decide +kernel
theorem dX5_share_27 : decode cX5_share 27 = .ok (.iconst 0, 1) := by decide +kernel
theorem dX5_share_28 : decode cX5_share 28 = .ok (.invokevirtual 79, 3) := by decide +kernel
theorem dX5_share_31 : decode cX5_share 31 = .ok (.ifCond .eq 5, 3) := by decide +kernel
theorem dX5_share_34 : decode cX5_share 34 = .ok (.iconst 0, 1) := by decide +kernel
theorem dX5_share_35 : decode cX5_share 35 = .ok (.ireturn, 1) := by decide +kernel
theorem dX5_share_36 : decode cX5_share 36 = .ok (.aload_n 0, 1) := by decide +kernel
theorem dX5_share_37 : decode cX5_share 37 = .ok (.getfield 99, 3) := by decide +kernel
theorem dX5_share_40 : decode cX5_share 40 = .ok (.aload_n 0, 1) := by decide +kernel
theorem dX5_share_41 : decode cX5_share 41 = .ok (.invokevirtual 147, 3) := by decide +kernel
theorem dX5_share_44 : decode cX5_share 44 = .ok (.isub, 1) := by decide +kernel
theorem dX5_share_45 : decode cX5_share 45 = .ok (.istore_n 2, 1) := by decide +kernel
theorem dX5_share_46 : decode cX5_share 46 = .ok (.iload_n 1, 1) := by decide +kernel
theorem dX5_share_47 : decode cX5_share 47 = .ok (.ifCond .ne 7, 3) := by decide +kernel
theorem dX5_share_50 : decode cX5_share 50 = .ok (.iload_n 2, 1) := by decide +kernel
theorem dX5_share_51 : decode cX5_share 51 = .ok (.goto 7, 3) := by decide +kernel
theorem dX5_share_54 : decode cX5_share 54 = .ok (.aload_n 0, 1) := by decide +kernel
theorem dX5_share_55 : decode cX5_share 55 = .ok (.getfield 99, 3) := by decide +kernel
theorem dX5_share_58 : decode cX5_share 58 = .ok (.iload_n 2, 1) := by decide +kernel
theorem dX5_share_59 : decode cX5_share 59 = .ok (.i2l, 1) := by decide +kernel
theorem dX5_share_60 : decode cX5_share 60 = .ok (.aload_n 0, 1) := by decide +kernel
theorem dX5_share_61 : decode cX5_share 61 = .ok (.getfield 99, 3) := by decide +kernel
theorem dX5_share_64 : decode cX5_share 64 = .ok (.i2l, 1) := by decide +kernel
theorem dX5_share_65 : decode cX5_share 65 = .ok (.invokestatic 154, 3) := by decide +kernel
theorem dX5_share_68 : decode cX5_share 68 = .ok (.l2i, 1) := by decide +kernel
theorem dX5_share_69 : decode cX5_share 69 = .ok (.idiv, 1) := by decide +kernel
theorem dX5_share_70 : decode cX5_share 70 = .ok (.ireturn, 1) := by decide +kernel
set_option maxRecDepth 20000 in
theorem ggX5_mean_X5_throwing : GoodIn wsX5_mean wsX5_throwing := goodIn_r _ [10, 11, 12, 13, 14, 15, 16, 17, 18, 19, 20, 21, 22, 23, 24, 25, 26, 27, 28, 29, 30, 31, 32, 33, 34, 35] (by decide +kernel) (by decide +kernel)
set_option maxRecDepth 20000 in
theorem gX5_mean_X5_throwing : GoodIn wsX5_mean (wsV RX5 79 RX5 yX5_throwing wsX5_throwing) := goodIn_app (goodIn_of _ (by decide +kernel)) ggX5_mean_X5_throwing
theorem dX5_mean_0 : decode cX5_mean 0 = .ok (.iconst 0, 1) := by decide +kernel
theorem dX5_mean_1 : decode cX5_mean 1 = .ok (.istore_n 1, 1) := by decide +kernel
theorem dX5_mean_2 : decode cX5_mean 2 = .ok (.iconst 0, 1) := by decide +kernel
theorem dX5_mean_3 : decode cX5_mean 3 = .ok (.istore_n 2, 1) := by decide +kernel
theorem dX5_mean_4 : decode cX5_mean 4 = .ok (.iconst 0, 1) := by decide +kernel
theorem dX5_mean_5 : decode cX5_mean 5 = .ok (.istore_n 3, 1) := by decide +kernel
theorem dX5_mean_6 : decode cX5_mean 6 = .ok (.iload_n 3, 1) := by decide +kernel
theorem dX5_mean_7 : decode cX5_mean 7 = .ok (.aload_n 0, 1) := by decide +kernel
theorem dX5_mean_8 : decode cX5_mean 8 = .ok (.getfield 99, 3) := by decide +kernel
theorem dX5_mean_11 : decode cX5_mean 11 = .ok (.if_icmp .ge 55, 3) := by decide +kernel
theorem dX5_mean_14 : decode cX5_mean 14 = .ok (.iload_n 1, 1) := by decide +kernel
theorem dX5_mean_15 : decode cX5_mean 15 = .ok (.aload_n 0, 1) := by decide +kernel
theorem dX5_mean_16 : decode cX5_mean 16 = .ok (.getfield 47, 3) := by decide +kernel
theorem dX5_mean_19 : decode cX5_mean 19 = .ok (.iload_n 3, 1) := by decide +kernel
theorem dX5_mean_20 : decode cX5_mean 20 = .ok (.iaload, 1) := by decide +kernel
theorem dX5_mean_21 : decode cX5_mean 21 = .ok (.ifCond .ge 7, 3) := by decide +kernel
theorem dX5_mean_24 : decode cX5_mean 24 = .ok (.iconst 0, 1) := by decide +kernel
theorem dX5_mean_25 : decode cX5_mean 25 = .ok (.goto 4, 3) := by decide +kernel
theorem dX5_mean_28 : decode cX5_mean 28 = .ok (.iconst 1, 1) := by decide +kernel
theorem dX5_mean_29 : decode cX5_mean 29 = .ok (.iadd, 1) := by decide +kernel
theorem dX5_mean_30 : decode cX5_mean 30 = .ok (.istore_n 1, 1) := by decide +kernel
theorem dX5_mean_31 : decode cX5_mean 31 = .ok (.iload_n 2, 1) := by decide +kernel
theorem dX5_mean_32 : decode cX5_mean 32 = .ok (.aload_n 0, 1) := by decide +kernel
theorem dX5_mean_33 : decode cX5_mean 33 = .ok (.getfield 47, 3) := by decide +kernel
theorem dX5_mean_36 : decode cX5_mean 36 = .ok (.iload_n 3, 1) := by decide +kernel
theorem dX5_mean_37 : decode cX5_mean 37 = .ok (.iaload, 1) := by decide +kernel
theorem dX5_mean_38 : decode cX5_mean 38 = .ok (.ifCond .ge 7, 3) := by decide +kernel
theorem dX5_mean_41 : decode cX5_mean 41 = .ok (.iconst 0, 1) := by decide +kernel
theorem dX5_mean_42 : decode cX5_mean 42 = .ok (.goto 16, 3) := by decide +kernel
theorem dX5_mean_45 : decode cX5_mean 45 = .ok (.aload_n 0, 1) := by decide +kernel
theorem dX5_mean_46 : decode cX5_mean 46 = .ok (.getfield 50, 3) := by decide +kernel
theorem dX5_mean_49 : decode cX5_mean 49 = .ok (.iload_n 3, 1) := by decide +kernel
theorem dX5_mean_50 : decode cX5_mean 50 = .ok (.iaload, 1) := by decide +kernel
theorem dX5_mean_51 : decode cX5_mean 51 = .ok (.aload_n 0, 1) := by decide +kernel
theorem dX5_mean_52 : decode cX5_mean 52 = .ok (.getfield 35, 3) := by decide +kernel
theorem dX5_mean_55 : decode cX5_mean 55 = .ok (.iload_n 3, 1) := by decide +kernel
theorem dX5_mean_56 : decode cX5_mean 56 = .ok (.iaload, 1) := by decide +kernel
theorem dX5_mean_57 : decode cX5_mean 57 = .ok (.isub, 1) := by decide +kernel
theorem dX5_mean_58 : decode cX5_mean 58 = .ok (.iadd, 1) := by decide +kernel
theorem dX5_mean_59 : decode cX5_mean 59 = .ok (.istore_n 2, 1) := by decide +kernel
theorem dX5_mean_60 : decode cX5_mean 60 = .ok (.iinc 3 1, 3) := by decide +kernel
theorem dX5_mean_63 : decode cX5_mean 63 = .ok (.goto (-57), 3) := by decide +kernel
theorem dX5_mean_66 : decode cX5_mean 66 = .ok (.aload_n 0, 1) := by decide +kernel
theorem dX5_mean_67 : decode cX5_mean 67 = .ok (.iload_n 1, 1) := by decide +kernel
theorem dX5_mean_68 : decode cX5_mean 68 = .ok (.ifCond .ne 7, 3) := by decide +kernel
theorem dX5_mean_71 : decode cX5_mean 71 = .ok (.iconst 1, 1) := by decide +kernel
theorem dX5_mean_72 : decode cX5_mean 72 = .ok (.goto 4, 3) := by decide +kernel
theorem dX5_mean_75 : decode cX5_mean 75 = .ok (.iconst 0, 1) := by decide +kernel
theorem dX5_mean_76 : decode cX5_mean 76 = .ok (.iconst 0, 1) := by decide +kernel
theorem dX5_mean_77 : decode cX5_mean 77 = .ok (.iconst 0, 1) := by decide +kernel
theorem dX5_mean_78 : decode cX5_mean 78 = .ok (.invokevirtual 79, 3) := by decide +kernel
theorem dX5_mean_81 : decode cX5_mean 81 = .ok (.ifCond .eq 5, 3) := by decide +kernel
theorem dX5_mean_84 : decode cX5_mean 84 = .ok (.iconst 0, 1) := by decide +kernel
theorem dX5_mean_85 : decode cX5_mean 85 = .ok (.ireturn, 1) := by decide +kernel
theorem dX5_mean_86 : decode cX5_mean 86 = .ok (.ldc2_w 158, 3) := by decide +kernel
theorem dX5_mean_89 : decode cX5_mean 89 = .ok (.iload_n 2, 1) := by decide +kernel
theorem dX5_mean_90 : decode cX5_mean 90 = .ok (.i2l, 1) := by decide +kernel
theorem dX5_mean_91 : decode cX5_mean 91 = .ok (.lmul, 1) := by decide +kernel
theorem dX5_mean_92 : decode cX5_mean 92 = .ok (.iload_n 1, 1) := by decide +kernel
theorem dX5_mean_93 : decode cX5_mean 93 = .ok (.i2l, 1) := by decide +kernel
theorem dX5_mean_94 : decode cX5_mean 94 = .ok (.ldiv, 1) := by decide +kernel
theorem dX5_mean_95 : decode cX5_mean 95 = .ok (.l2i, 1) := by decide +kernel
theorem dX5_mean_96 : decode cX5_mean 96 = .ok (.ireturn, 1) := by decide +kernel
theorem dX5_missed_0 : decode cX5_missed 0 = .ok (.aload_n 0, 1) := by decide +kernel
theorem dX5_missed_1 : decode cX5_missed 1 = .ok (.iconst 0, 1) := by decide +kernel
theorem dX5_missed_2 : decode cX5_missed 2 = .ok (.putfield 65, 3) := by decide +kernel
theorem dX5_missed_5 : decode cX5_missed 5 = .ok (.aload_n 0, 1) := by decide +kernel
theorem dX5_missed_6 : decode cX5_missed 6 = .ok (.getfield 135, 3) := by decide +kernel
theorem dX5_missed_9 : decode cX5_missed 9 = .ok (.ireturn, 1) := by decide +kernel
set_option maxRecDepth 20000 in
theorem ggX5_work_X5_in : GoodIn wsX5_work wsX5_in := goodIn_r _ [6] (by decide +kernel) (by decide +kernel)
set_option maxRecDepth 20000 in
theorem gX5_work_X5_in : GoodIn wsX5_work (va_wsS RX5 68 yX5_in wsX5_in) := goodIn_app (goodIn_of _ (by decide +kernel)) ggX5_work_X5_in
set_option maxRecDepth 20000 in
theorem ggX5_work_X5_throwing : GoodIn wsX5_work wsX5_throwing := goodIn_r _ [10, 11, 12, 13, 14, 15, 16, 17, 18, 19, 20, 21, 22, 23, 24, 25, 26, 27, 28, 29, 30, 31, 32, 33, 34, 35] (by decide +kernel) (by decide +kernel)
set_option maxRecDepth 20000 in
theorem gX5_work_X5_throwing : GoodIn wsX5_work (wsV RX5 79 RX5 yX5_throwing wsX5_throwing) := goodIn_app (goodIn_of _ (by decide +kernel)) ggX5_work_X5_throwing
theorem dX5_work_0 : decode cX5_work 0 = .ok (.aload_n 0, 1) := by decide +kernel
theorem dX5_work_1 : decode cX5_work 1 = .ok (.iload_n 1, 1) := by decide +kernel
theorem dX5_work_2 : decode cX5_work 2 = .ok (.iconst 0, 1) := by decide +kernel
theorem dX5_work_3 : decode cX5_work 3 = .ok (.aload_n 0, 1) := by decide +kernel
theorem dX5_work_4 : decode cX5_work 4 = .ok (.getfield 86, 3) := by decide +kernel
theorem dX5_work_7 : decode cX5_work 7 = .ok (.iconst 1, 1) := by decide +kernel
theorem dX5_work_8 : decode cX5_work 8 = .ok (.isub, 1) := by decide +kernel
theorem dX5_work_9 : decode cX5_work 9 = .ok (.invokestatic 68, 3) := by decide +kernel
theorem dX5_work_12 : decode cX5_work 12 = .ok (.ifCond .ne 7, 3) := by decide +kernel
theorem dX5_work_15 : decode cX5_work 15 = .ok (.iconst 1, 1) := by decide +kernel
theorem dX5_work_16 : decode cX5_work 16 = .ok (.goto 4, 3) := by decide +kernel
theorem dX5_work_19 : decode cX5_work 19 = .ok (.iconst 0, 1) := by decide +kernel
theorem dX5_work_20 : decode cX5_work 20 = .ok (.iconst 0, 1) := by decide +kernel
theorem dX5_work_21 : decode cX5_work 21 = .ok (.iconst 0, 1) := by decide +kernel
theorem dX5_work_22 : decode cX5_work 22 = .ok (.invokevirtual 79, 3) := by decide +kernel
theorem dX5_work_25 : decode cX5_work 25 = .ok (.ifCond .eq 5, 3) := by decide +kernel
theorem dX5_work_28 : decode cX5_work 28 = .ok (.iconst 0, 1) := by decide +kernel
theorem dX5_work_29 : decode cX5_work 29 = .ok (.ireturn, 1) := by decide +kernel
theorem dX5_work_30 : decode cX5_work 30 = .ok (.aload_n 0, 1) := by decide +kernel
theorem dX5_work_31 : decode cX5_work 31 = .ok (.getfield 59, 3) := by decide +kernel
theorem dX5_work_34 : decode cX5_work 34 = .ok (.iload_n 1, 1) := by decide +kernel
theorem dX5_work_35 : decode cX5_work 35 = .ok (.iaload, 1) := by decide +kernel
theorem dX5_work_36 : decode cX5_work 36 = .ok (.ireturn, 1) := by decide +kernel
set_option maxRecDepth 20000 in
theorem ggX5_worst_X5_isLate : GoodIn wsX5_worst wsX5_isLate := goodIn_r _ [8, 9, 10, 3, 11, 12, 13, 14, 15, 16, 17, 18, 19, 20, 21, 22, 23, 24, 25, 26, 27, 28, 29, 30, 31, 32, 33, 34, 35] (by decide +kernel) (by decide +kernel)
set_option maxRecDepth 20000 in
theorem gX5_worst_X5_isLate : GoodIn wsX5_worst (wsV RX5 138 RX5 yX5_isLate wsX5_isLate) := goodIn_app (goodIn_of _ (by decide +kernel)) ggX5_worst_X5_isLate
theorem dX5_worst_0 : decode cX5_worst 0 = .ok (.aload_n 0, 1) := by decide +kernel
theorem dX5_worst_1 : decode cX5_worst 1 = .ok (.iconst 0, 1) := by decide +kernel
theorem dX5_worst_2 : decode cX5_worst 2 = .ok (.putfield 65, 3) := by decide +kernel
theorem dX5_worst_5 : decode cX5_worst 5 = .ok (.iconst (-1), 1) := by decide +kernel
theorem dX5_worst_6 : decode cX5_worst 6 = .ok (.istore_n 1, 1) := by decide +kernel
theorem dX5_worst_7 : decode cX5_worst 7 = .ok (.iconst 0, 1) := by decide +kernel
theorem dX5_worst_8 : decode cX5_worst 8 = .ok (.istore_n 2, 1) := by decide +kernel
theorem dX5_worst_9 : decode cX5_worst 9 = .ok (.iconst 0, 1) := by decide +kernel
theorem dX5_worst_10 : decode cX5_worst 10 = .ok (.istore_n 3, 1) := by decide +kernel
theorem dX5_worst_11 : decode cX5_worst 11 = .ok (.iload_n 3, 1) := by decide +kernel
theorem dX5_worst_12 : decode cX5_worst 12 = .ok (.bipush 24, 2) := by decide +kernel
theorem dX5_worst_14 : decode cX5_worst 14 = .ok (.if_icmp .ge 74, 3) := by decide +kernel
theorem dX5_worst_17 : decode cX5_worst 17 = .ok (.iconst 0, 1) := by decide +kernel
theorem dX5_worst_18 : decode cX5_worst 18 = .ok (.istore 4, 2) := by decide +kernel
theorem dX5_worst_20 : decode cX5_worst 20 = .ok (.iconst 0, 1) := by decide +kernel
theorem dX5_worst_21 : decode cX5_worst 21 = .ok (.istore 5, 2) := by decide +kernel
theorem dX5_worst_23 : decode cX5_worst 23 = .ok (.iload 5, 2) := by decide +kernel
theorem dX5_worst_25 : decode cX5_worst 25 = .ok (.aload_n 0, 1) := by decide +kernel
theorem dX5_worst_26 : decode cX5_worst 26 = .ok (.getfield 99, 3) := by decide +kernel
theorem dX5_worst_29 : decode cX5_worst 29 = .ok (.if_icmp .ge 42, 3) := by decide +kernel
theorem dX5_worst_32 : decode cX5_worst 32 = .ok (.iload 4, 2) := by decide +kernel
theorem dX5_worst_34 : decode cX5_worst 34 = .ok (.aload_n 0, 1) := by decide +kernel
theorem dX5_worst_35 : decode cX5_worst 35 = .ok (.iload 5, 2) := by decide +kernel
theorem dX5_worst_37 : decode cX5_worst 37 = .ok (.invokevirtual 138, 3) := by decide +kernel
theorem dX5_worst_40 : decode cX5_worst 40 = .ok (.ifCond .eq 21, 3) := by decide +kernel
theorem dX5_worst_43 : decode cX5_worst 43 = .ok (.aload_n 0, 1) := by decide +kernel
theorem dX5_worst_44 : decode cX5_worst 44 = .ok (.getfield 35, 3) := by decide +kernel
theorem dX5_worst_47 : decode cX5_worst 47 = .ok (.iload 5, 2) := by decide +kernel
theorem dX5_worst_49 : decode cX5_worst 49 = .ok (.iaload, 1) := by decide +kernel
theorem dX5_worst_50 : decode cX5_worst 50 = .ok (.bipush 60, 2) := by decide +kernel
theorem dX5_worst_52 : decode cX5_worst 52 = .ok (.idiv, 1) := by decide +kernel
theorem dX5_worst_53 : decode cX5_worst 53 = .ok (.iload_n 3, 1) := by decide +kernel
theorem dX5_worst_54 : decode cX5_worst 54 = .ok (.if_icmp .ne 7, 3) := by decide +kernel
theorem dX5_worst_57 : decode cX5_worst 57 = .ok (.iconst 1, 1) := by decide +kernel
theorem dX5_worst_58 : decode cX5_worst 58 = .ok (.goto 4, 3) := by decide +kernel
theorem dX5_worst_61 : decode cX5_worst 61 = .ok (.iconst 0, 1) := by decide +kernel
theorem dX5_worst_62 : decode cX5_worst 62 = .ok (.iadd, 1) := by decide +kernel
theorem dX5_worst_63 : decode cX5_worst 63 = .ok (.istore 4, 2) := by decide +kernel
theorem dX5_worst_65 : decode cX5_worst 65 = .ok (.iinc 5 1, 3) := by decide +kernel
theorem dX5_worst_68 : decode cX5_worst 68 = .ok (.goto (-45), 3) := by decide +kernel
theorem dX5_worst_71 : decode cX5_worst 71 = .ok (.iload 4, 2) := by decide +kernel
theorem dX5_worst_73 : decode cX5_worst 73 = .ok (.iload_n 2, 1) := by decide +kernel
theorem dX5_worst_74 : decode cX5_worst 74 = .ok (.if_icmp .le 8, 3) := by decide +kernel
theorem dX5_worst_77 : decode cX5_worst 77 = .ok (.iload_n 3, 1) := by decide +kernel
theorem dX5_worst_78 : decode cX5_worst 78 = .ok (.istore_n 1, 1) := by decide +kernel
theorem dX5_worst_79 : decode cX5_worst 79 = .ok (.iload 4, 2) := by decide +kernel
theorem dX5_worst_81 : decode cX5_worst 81 = .ok (.istore_n 2, 1) := by decide +kernel
theorem dX5_worst_82 : decode cX5_worst 82 = .ok (.iinc 3 1, 3) := by decide +kernel
theorem dX5_worst_85 : decode cX5_worst 85 = .ok (.goto (-74), 3) := by decide +kernel
theorem dX5_worst_88 : decode cX5_worst 88 = .ok (.iload_n 1, 1) := by decide +kernel
theorem dX5_worst_89 : decode cX5_worst 89 = .ok (.ireturn, 1) := by decide +kernel
set_option maxRecDepth 20000 in
theorem ggX5_arrived_X5_in : GoodIn wsX5_arrived wsX5_in := goodIn_r _ [7] (by decide +kernel) (by decide +kernel)
set_option maxRecDepth 20000 in
theorem gX5_arrived_X5_in : GoodIn wsX5_arrived (va_wsS RX5 68 yX5_in wsX5_in) := goodIn_app (goodIn_of _ (by decide +kernel)) ggX5_arrived_X5_in
set_option maxRecDepth 20000 in
theorem ggX5_arrived_X5_throwing : GoodIn wsX5_arrived wsX5_throwing := goodIn_r _ [11, 12, 13, 14, 15, 16, 17, 18, 19, 20, 21, 22, 23, 24, 25, 26, 27, 28, 29, 30, 31, 32, 33, 34, 35, 36] (by decide +kernel) (by decide +kernel)
set_option maxRecDepth 20000 in
theorem gX5_arrived_X5_throwing : GoodIn wsX5_arrived (wsV RX5 79 RX5 yX5_throwing wsX5_throwing) := goodIn_app (goodIn_of _ (by decide +kernel)) ggX5_arrived_X5_throwing
theorem dX5_arrived_0 : decode cX5_arrived 0 = .ok (.aload_n 0, 1) := by decide +kernel
theorem dX5_arrived_1 : decode cX5_arrived 1 = .ok (.iload_n 1, 1) := by decide +kernel
theorem dX5_arrived_2 : decode cX5_arrived 2 = .ok (.iconst 0, 1) := by decide +kernel
theorem dX5_arrived_3 : decode cX5_arrived 3 = .ok (.sipush 9999, 3) := by decide +kernel
theorem dX5_arrived_6 : decode cX5_arrived 6 = .ok (.invokestatic 68, 3) := by decide +kernel
theorem dX5_arrived_9 : decode cX5_arrived 9 = .ok (.ifCond .ne 7, 3) := by decide +kernel
theorem dX5_arrived_12 : decode cX5_arrived 12 = .ok (.iconst 1, 1) := by decide +kernel
theorem dX5_arrived_13 : decode cX5_arrived 13 = .ok (.goto 4, 3) := by decide +kernel
theorem dX5_arrived_16 : decode cX5_arrived 16 = .ok (.iconst 0, 1) := by decide +kernel
theorem dX5_arrived_17 : decode cX5_arrived 17 = .ok (.iconst 0, 1) := by decide +kernel
theorem dX5_arrived_18 : decode cX5_arrived 18 = .ok (.iconst 0, 1) := by decide +kernel
theorem dX5_arrived_19 : decode cX5_arrived 19 = .ok (.invokevirtual 79, 3) := by decide +kernel
theorem dX5_arrived_22 : decode cX5_arrived 22 = .ok (.ifCond .eq 5, 3) := by decide +kernel
theorem dX5_arrived_25 : decode cX5_arrived 25 = .ok (.iconst 0, 1) := by decide +kernel
theorem dX5_arrived_26 : decode cX5_arrived 26 = .ok (.ireturn, 1) := by decide +kernel
theorem dX5_arrived_27 : decode cX5_arrived 27 = .ok (.iconst 0, 1) := by decide +kernel
theorem dX5_arrived_28 : decode cX5_arrived 28 = .ok (.istore_n 2, 1) := by decide +kernel
theorem dX5_arrived_29 : decode cX5_arrived 29 = .ok (.iconst 0, 1) := by decide +kernel
theorem dX5_arrived_30 : decode cX5_arrived 30 = .ok (.istore_n 3, 1) := by decide +kernel
theorem dX5_arrived_31 : decode cX5_arrived 31 = .ok (.iload_n 3, 1) := by decide +kernel
theorem dX5_arrived_32 : decode cX5_arrived 32 = .ok (.aload_n 0, 1) := by decide +kernel
theorem dX5_arrived_33 : decode cX5_arrived 33 = .ok (.getfield 99, 3) := by decide +kernel
theorem dX5_arrived_36 : decode cX5_arrived 36 = .ok (.if_icmp .ge 36, 3) := by decide +kernel
theorem dX5_arrived_39 : decode cX5_arrived 39 = .ok (.iload_n 2, 1) := by decide +kernel
theorem dX5_arrived_40 : decode cX5_arrived 40 = .ok (.aload_n 0, 1) := by decide +kernel
theorem dX5_arrived_41 : decode cX5_arrived 41 = .ok (.getfield 47, 3) := by decide +kernel
theorem dX5_arrived_44 : decode cX5_arrived 44 = .ok (.iload_n 3, 1) := by decide +kernel
theorem dX5_arrived_45 : decode cX5_arrived 45 = .ok (.iaload, 1) := by decide +kernel
theorem dX5_arrived_46 : decode cX5_arrived 46 = .ok (.ifCond .lt 17, 3) := by decide +kernel
theorem dX5_arrived_49 : decode cX5_arrived 49 = .ok (.aload_n 0, 1) := by decide +kernel
theorem dX5_arrived_50 : decode cX5_arrived 50 = .ok (.getfield 50, 3) := by decide +kernel
theorem dX5_arrived_53 : decode cX5_arrived 53 = .ok (.iload_n 3, 1) := by decide +kernel
theorem dX5_arrived_54 : decode cX5_arrived 54 = .ok (.iaload, 1) := by decide +kernel
theorem dX5_arrived_55 : decode cX5_arrived 55 = .ok (.iload_n 1, 1) := by decide +kernel
theorem dX5_arrived_56 : decode cX5_arrived 56 = .ok (.if_icmp .gt 7, 3) := by decide +kernel
theorem dX5_arrived_59 : decode cX5_arrived 59 = .ok (.iconst 1, 1) := by decide +kernel
theorem dX5_arrived_60 : decode cX5_arrived 60 = .ok (.goto 4, 3) := by decide +kernel
theorem dX5_arrived_63 : decode cX5_arrived 63 = .ok (.iconst 0, 1) := by decide +kernel
theorem dX5_arrived_64 : decode cX5_arrived 64 = .ok (.iadd, 1) := by decide +kernel
theorem dX5_arrived_65 : decode cX5_arrived 65 = .ok (.istore_n 2, 1) := by decide +kernel
theorem dX5_arrived_66 : decode cX5_arrived 66 = .ok (.iinc 3 1, 3) := by decide +kernel
theorem dX5_arrived_69 : decode cX5_arrived 69 = .ok (.goto (-38), 3) := by decide +kernel
theorem dX5_arrived_72 : decode cX5_arrived 72 = .ok (.iload_n 2, 1) := by decide +kernel
theorem dX5_arrived_73 : decode cX5_arrived 73 = .ok (.ireturn, 1) := by decide +kernel
set_option maxRecDepth 20000 in
theorem ggX5_unlucky_X5_in : GoodIn wsX5_unlucky wsX5_in := goodIn_r _ [5] (by decide +kernel) (by decide +kernel)
set_option maxRecDepth 20000 in
theorem gX5_unlucky_X5_in : GoodIn wsX5_unlucky (va_wsS RX5 68 yX5_in wsX5_in) := goodIn_app (goodIn_of _ (by decide +kernel)) ggX5_unlucky_X5_in
set_option maxRecDepth 20000 in
theorem ggX5_unlucky_X5_isDay : GoodIn wsX5_unlucky wsX5_isDay := goodIn_r _ [8, 2, 3, 4, 5] (by decide +kernel) (by decide +kernel)
set_option maxRecDepth 20000 in
theorem gX5_unlucky_X5_isDay : GoodIn wsX5_unlucky (va_wsS RX5 141 yX5_isDay wsX5_isDay) := goodIn_app (goodIn_of _ (by decide +kernel)) ggX5_unlucky_X5_isDay
set_option maxRecDepth 20000 in
theorem ggX5_unlucky_X5_throwing : GoodIn wsX5_unlucky wsX5_throwing := goodIn_r _ [12, 13, 89, 90, 91, 92, 93, 94, 95, 96, 97, 98, 99, 100, 101, 102, 103, 104, 105, 106, 107, 108, 109, 110, 111, 112] (by decide +kernel) (by decide +kernel)
set_option maxRecDepth 20000 in
theorem gX5_unlucky_X5_throwing : GoodIn wsX5_unlucky (wsV RX5 79 RX5 yX5_throwing wsX5_throwing) := goodIn_app (goodIn_of _ (by decide +kernel)) ggX5_unlucky_X5_throwing
set_option maxRecDepth 20000 in
theorem ggX5_unlucky_X5_play : GoodIn wsX5_unlucky wsX5_play := goodIn_r _ [17, 18, 19, 20, 21, 22, 23, 24, 25, 26, 27, 28, 4, 29, 30, 31, 32, 33, 34, 35, 36, 37, 38, 39, 40, 41, 42, 43, 44, 45, 46, 1, 47, 48, 49, 50, 51, 52, 53, 54, 55, 56, 57, 58, 59, 60, 61, 62, 63, 64, 65, 66, 67, 68, 69, 70, 71, 72, 73, 74, 75, 89, 90, 91, 92, 93, 94, 95, 96, 97, 98, 99, 100, 101, 102, 103, 104, 105, 106, 107, 108, 109, 110, 111, 112] (by decide +kernel) (by decide +kernel)
set_option maxRecDepth 20000 in
theorem gX5_unlucky_X5_play : GoodIn wsX5_unlucky (wsV RX5 144 RX5 yX5_play wsX5_play) := goodIn_app (goodIn_of _ (by decide +kernel)) ggX5_unlucky_X5_play
set_option maxRecDepth 20000 in
theorem ggX5_unlucky_X5_late : GoodIn wsX5_unlucky wsX5_late := goodIn_r _ [79, 30, 80, 81, 82, 4, 83, 35, 36, 32, 84, 89, 90, 91, 92, 93, 94, 95, 96, 97, 98, 99, 100, 101, 102, 103, 104, 105, 106, 107, 108, 109, 110, 111, 112] (by decide +kernel) (by decide +kernel)
set_option maxRecDepth 20000 in
theorem gX5_unlucky_X5_late : GoodIn wsX5_unlucky (wsV RX5 147 RX5 yX5_late wsX5_late) := goodIn_app (goodIn_of _ (by decide +kernel)) ggX5_unlucky_X5_late
set_option maxRecDepth 20000 in
theorem ggX5_unlucky_X5_forget : GoodIn wsX5_unlucky wsX5_forget := goodIn_r _ [88, 30, 25, 19, 89, 90, 91, 92, 93, 94, 95, 96, 97, 98, 99, 100, 101, 102, 103, 104, 105, 106, 107, 108, 109, 110, 111, 112] (by decide +kernel) (by decide +kernel)
set_option maxRecDepth 20000 in
theorem gX5_unlucky_X5_forget : GoodIn wsX5_unlucky (wsV RX5 160 RX5 yX5_forget wsX5_forget) := goodIn_app (goodIn_of _ (by decide +kernel)) ggX5_unlucky_X5_forget
theorem dX5_unlucky_0 : decode cX5_unlucky 0 = .ok (.iload_n 3, 1) := by decide +kernel
theorem dX5_unlucky_1 : decode cX5_unlucky 1 = .ok (.iconst 1, 1) := by decide +kernel
theorem dX5_unlucky_2 : decode cX5_unlucky 2 = .ok (.bipush 8, 2) := by decide +kernel
theorem dX5_unlucky_4 : decode cX5_unlucky 4 = .ok (.invokestatic 68, 3) := by decide +kernel
theorem dX5_unlucky_7 : decode cX5_unlucky 7 = .ok (.ifCond .eq 22, 3) := by decide +kernel
theorem dX5_unlucky_10 : decode cX5_unlucky 10 = .ok (.iload 4, 2) := by decide +kernel
theorem dX5_unlucky_12 : decode cX5_unlucky 12 = .ok (.invokestatic 141, 3) := by decide +kernel
theorem dX5_unlucky_15 : decode cX5_unlucky 15 = .ok (.ifCond .eq 14, 3) := by decide +kernel
theorem dX5_unlucky_18 : decode cX5_unlucky 18 = .ok (.iload 5, 2) := by decide +kernel
theorem dX5_unlucky_20 : decode cX5_unlucky 20 = .ok (.iconst 0, 1) := by decide +kernel
theorem dX5_unlucky_21 : decode cX5_unlucky 21 = .ok (.bipush 60, 2) := by decide +kernel
theorem dX5_unlucky_23 : decode cX5_unlucky 23 = .ok (.invokestatic 68, 3) := by decide +kernel
theorem dX5_unlucky_26 : decode cX5_unlucky 26 = .ok (.ifCond .ne 7, 3) := by decide +kernel
theorem dX5_unlucky_29 : decode cX5_unlucky 29 = .ok (.iconst 1, 1) := by decide +kernel
theorem dX5_unlucky_30 : decode cX5_unlucky 30 = .ok (.goto 4, 3) := by decide +kernel
theorem dX5_unlucky_33 : decode cX5_unlucky 33 = .ok (.iconst 0, 1) := by decide +kernel
theorem dX5_unlucky_34 : decode cX5_unlucky 34 = .ok (.istore 6, 2) := by decide +kernel
theorem dX5_unlucky_36 : decode cX5_unlucky 36 = .ok (.aload_n 0, 1) := by decide +kernel
theorem dX5_unlucky_37 : decode cX5_unlucky 37 = .ok (.iload_n 1, 1) := by decide +kernel
theorem dX5_unlucky_38 : decode cX5_unlucky 38 = .ok (.iconst 0, 1) := by decide +kernel
theorem dX5_unlucky_39 : decode cX5_unlucky 39 = .ok (.iconst 3, 1) := by decide +kernel
theorem dX5_unlucky_40 : decode cX5_unlucky 40 = .ok (.invokestatic 68, 3) := by decide +kernel
theorem dX5_unlucky_43 : decode cX5_unlucky 43 = .ok (.ifCond .ne 7, 3) := by decide +kernel
theorem dX5_unlucky_46 : decode cX5_unlucky 46 = .ok (.iconst 1, 1) := by decide +kernel
theorem dX5_unlucky_47 : decode cX5_unlucky 47 = .ok (.goto 4, 3) := by decide +kernel
theorem dX5_unlucky_50 : decode cX5_unlucky 50 = .ok (.iconst 0, 1) := by decide +kernel
theorem dX5_unlucky_51 : decode cX5_unlucky 51 = .ok (.iload 6, 2) := by decide +kernel
theorem dX5_unlucky_53 : decode cX5_unlucky 53 = .ok (.iload 5, 2) := by decide +kernel
theorem dX5_unlucky_55 : decode cX5_unlucky 55 = .ok (.ifCond .le 14, 3) := by decide +kernel
theorem dX5_unlucky_58 : decode cX5_unlucky 58 = .ok (.aload_n 0, 1) := by decide +kernel
theorem dX5_unlucky_59 : decode cX5_unlucky 59 = .ok (.getfield 83, 3) := by decide +kernel
theorem dX5_unlucky_62 : decode cX5_unlucky 62 = .ok (.ifCond .ne 7, 3) := by decide +kernel
theorem dX5_unlucky_65 : decode cX5_unlucky 65 = .ok (.iconst 1, 1) := by decide +kernel
theorem dX5_unlucky_66 : decode cX5_unlucky 66 = .ok (.goto 4, 3) := by decide +kernel
theorem dX5_unlucky_69 : decode cX5_unlucky 69 = .ok (.iconst 0, 1) := by decide +kernel
theorem dX5_unlucky_70 : decode cX5_unlucky 70 = .ok (.invokevirtual 79, 3) := by decide +kernel
theorem dX5_unlucky_73 : decode cX5_unlucky 73 = .ok (.ifCond .eq 5, 3) := by decide +kernel
theorem dX5_unlucky_76 : decode cX5_unlucky 76 = .ok (.iconst 0, 1) := by decide +kernel
theorem dX5_unlucky_77 : decode cX5_unlucky 77 = .ok (.ireturn, 1) := by decide +kernel
theorem dX5_unlucky_78 : decode cX5_unlucky 78 = .ok (.iload_n 2, 1) := by decide +kernel
theorem dX5_unlucky_79 : decode cX5_unlucky 79 = .ok (.istore 7, 2) := by decide +kernel
theorem dX5_unlucky_81 : decode cX5_unlucky 81 = .ok (.iconst (-1), 1) := by decide +kernel
theorem dX5_unlucky_82 : decode cX5_unlucky 82 = .ok (.istore 8, 2) := by decide +kernel
theorem dX5_unlucky_84 : decode cX5_unlucky 84 = .ok (.iconst 0, 1) := by decide +kernel
theorem dX5_unlucky_85 : decode cX5_unlucky 85 = .ok (.istore 9, 2) := by decide +kernel
theorem dX5_unlucky_87 : decode cX5_unlucky 87 = .ok (.iload 9, 2) := by decide +kernel
theorem dX5_unlucky_89 : decode cX5_unlucky 89 = .ok (.iload_n 3, 1) := by decide +kernel
theorem dX5_unlucky_90 : decode cX5_unlucky 90 = .ok (.if_icmp .ge 43, 3) := by decide +kernel
theorem dX5_unlucky_93 : decode cX5_unlucky 93 = .ok (.aload_n 0, 1) := by decide +kernel
theorem dX5_unlucky_94 : decode cX5_unlucky 94 = .ok (.iload_n 1, 1) := by decide +kernel
theorem dX5_unlucky_95 : decode cX5_unlucky 95 = .ok (.iload_n 2, 1) := by decide +kernel
theorem dX5_unlucky_96 : decode cX5_unlucky 96 = .ok (.iload 9, 2) := by decide +kernel
theorem dX5_unlucky_98 : decode cX5_unlucky 98 = .ok (.iadd, 1) := by decide +kernel
theorem dX5_unlucky_99 : decode cX5_unlucky 99 = .ok (.iload 4, 2) := by decide +kernel
theorem dX5_unlucky_101 : decode cX5_unlucky 101 = .ok (.iload 5, 2) := by decide +kernel
theorem dX5_unlucky_103 : decode cX5_unlucky 103 = .ok (.invokevirtual 144, 3) := by decide +kernel
theorem dX5_unlucky_106 : decode cX5_unlucky 106 = .ok (.aload_n 0, 1) := by decide +kernel
theorem dX5_unlucky_107 : decode cX5_unlucky 107 = .ok (.invokevirtual 147, 3) := by decide +kernel
theorem dX5_unlucky_110 : decode cX5_unlucky 110 = .ok (.iload 8, 2) := by decide +kernel
theorem dX5_unlucky_112 : decode cX5_unlucky 112 = .ok (.if_icmp .le 15, 3) := by decide +kernel
theorem dX5_unlucky_115 : decode cX5_unlucky 115 = .ok (.iload_n 2, 1) := by decide +kernel
theorem dX5_unlucky_116 : decode cX5_unlucky 116 = .ok (.iload 9, 2) := by decide +kernel
theorem dX5_unlucky_118 : decode cX5_unlucky 118 = .ok (.iadd, 1) := by decide +kernel
theorem dX5_unlucky_119 : decode cX5_unlucky 119 = .ok (.istore 7, 2) := by decide +kernel
theorem dX5_unlucky_121 : decode cX5_unlucky 121 = .ok (.aload_n 0, 1) := by decide +kernel
theorem dX5_unlucky_122 : decode cX5_unlucky 122 = .ok (.invokevirtual 147, 3) := by decide +kernel
theorem dX5_unlucky_125 : decode cX5_unlucky 125 = .ok (.istore 8, 2) := by decide +kernel
theorem dX5_unlucky_127 : decode cX5_unlucky 127 = .ok (.iinc 9 1, 3) := by decide +kernel
theorem dX5_unlucky_130 : decode cX5_unlucky 130 = .ok (.goto (-43), 3) := by decide +kernel
theorem dX5_unlucky_133 : decode cX5_unlucky 133 = .ok (.aload_n 0, 1) := by decide +kernel
theorem dX5_unlucky_134 : decode cX5_unlucky 134 = .ok (.invokevirtual 160, 3) := by decide +kernel
theorem dX5_unlucky_137 : decode cX5_unlucky 137 = .ok (.iload 7, 2) := by decide +kernel
theorem dX5_unlucky_139 : decode cX5_unlucky 139 = .ok (.ireturn, 1) := by decide +kernel
theorem dX5_tail_0 : decode cX5_tail 0 = .ok (.lconst 0, 1) := by decide +kernel
theorem dX5_tail_1 : decode cX5_tail 1 = .ok (.lstore_n 2, 1) := by decide +kernel
theorem dX5_tail_2 : decode cX5_tail 2 = .ok (.lconst 1, 1) := by decide +kernel
theorem dX5_tail_3 : decode cX5_tail 3 = .ok (.lstore 4, 2) := by decide +kernel
theorem dX5_tail_5 : decode cX5_tail 5 = .ok (.iconst 0, 1) := by decide +kernel
theorem dX5_tail_6 : decode cX5_tail 6 = .ok (.istore 6, 2) := by decide +kernel
theorem dX5_tail_8 : decode cX5_tail 8 = .ok (.iload 6, 2) := by decide +kernel
theorem dX5_tail_10 : decode cX5_tail 10 = .ok (.iload_n 0, 1) := by decide +kernel
theorem dX5_tail_11 : decode cX5_tail 11 = .ok (.if_icmp .gt 40, 3) := by decide +kernel
theorem dX5_tail_14 : decode cX5_tail 14 = .ok (.lload_n 2, 1) := by decide +kernel
theorem dX5_tail_15 : decode cX5_tail 15 = .ok (.iload 6, 2) := by decide +kernel
theorem dX5_tail_17 : decode cX5_tail 17 = .ok (.iload_n 1, 1) := by decide +kernel
theorem dX5_tail_18 : decode cX5_tail 18 = .ok (.if_icmp .lt 8, 3) := by decide +kernel
theorem dX5_tail_21 : decode cX5_tail 21 = .ok (.lload 4, 2) := by decide +kernel
theorem dX5_tail_23 : decode cX5_tail 23 = .ok (.goto 4, 3) := by decide +kernel
theorem dX5_tail_26 : decode cX5_tail 26 = .ok (.lconst 0, 1) := by decide +kernel
theorem dX5_tail_27 : decode cX5_tail 27 = .ok (.ladd, 1) := by decide +kernel
theorem dX5_tail_28 : decode cX5_tail 28 = .ok (.lstore_n 2, 1) := by decide +kernel
theorem dX5_tail_29 : decode cX5_tail 29 = .ok (.lload 4, 2) := by decide +kernel
theorem dX5_tail_31 : decode cX5_tail 31 = .ok (.iload_n 0, 1) := by decide +kernel
theorem dX5_tail_32 : decode cX5_tail 32 = .ok (.iload 6, 2) := by decide +kernel
theorem dX5_tail_34 : decode cX5_tail 34 = .ok (.isub, 1) := by decide +kernel
theorem dX5_tail_35 : decode cX5_tail 35 = .ok (.i2l, 1) := by decide +kernel
theorem dX5_tail_36 : decode cX5_tail 36 = .ok (.lmul, 1) := by decide +kernel
theorem dX5_tail_37 : decode cX5_tail 37 = .ok (.iload 6, 2) := by decide +kernel
theorem dX5_tail_39 : decode cX5_tail 39 = .ok (.iconst 1, 1) := by decide +kernel
theorem dX5_tail_40 : decode cX5_tail 40 = .ok (.iadd, 1) := by decide +kernel
theorem dX5_tail_41 : decode cX5_tail 41 = .ok (.i2l, 1) := by decide +kernel
theorem dX5_tail_42 : decode cX5_tail 42 = .ok (.ldiv, 1) := by decide +kernel
theorem dX5_tail_43 : decode cX5_tail 43 = .ok (.lstore 4, 2) := by decide +kernel
theorem dX5_tail_45 : decode cX5_tail 45 = .ok (.iinc 6 1, 3) := by decide +kernel
theorem dX5_tail_48 : decode cX5_tail 48 = .ok (.goto (-40), 3) := by decide +kernel
theorem dX5_tail_51 : decode cX5_tail 51 = .ok (.lload_n 2, 1) := by decide +kernel
theorem dX5_tail_52 : decode cX5_tail 52 = .ok (.lreturn, 1) := by decide +kernel
set_option maxRecDepth 20000 in
theorem ggX5_compare_X5_in : GoodIn wsX5_compare wsX5_in := goodIn_r _ [5] (by decide +kernel) (by decide +kernel)
set_option maxRecDepth 20000 in
theorem gX5_compare_X5_in : GoodIn wsX5_compare (va_wsS RX5 68 yX5_in wsX5_in) := goodIn_app (goodIn_of _ (by decide +kernel)) ggX5_compare_X5_in
set_option maxRecDepth 20000 in
theorem ggX5_compare_X5_isDay : GoodIn wsX5_compare wsX5_isDay := goodIn_r _ [8, 2, 3, 4, 5] (by decide +kernel) (by decide +kernel)
set_option maxRecDepth 20000 in
theorem gX5_compare_X5_isDay : GoodIn wsX5_compare (va_wsS RX5 141 yX5_isDay wsX5_isDay) := goodIn_app (goodIn_of _ (by decide +kernel)) ggX5_compare_X5_isDay
set_option maxRecDepth 20000 in
theorem ggX5_compare_X5_throwing : GoodIn wsX5_compare wsX5_throwing := goodIn_r _ [12, 13, 95, 96, 97, 98, 99, 100, 101, 102, 103, 104, 105, 106, 107, 108, 109, 110, 111, 112, 113, 114, 115, 116, 117, 118] (by decide +kernel) (by decide +kernel)
set_option maxRecDepth 20000 in
theorem gX5_compare_X5_throwing : GoodIn wsX5_compare (wsV RX5 79 RX5 yX5_throwing wsX5_throwing) := goodIn_app (goodIn_of _ (by decide +kernel)) ggX5_compare_X5_throwing
set_option maxRecDepth 20000 in
theorem ggX5_compare_X5_play : GoodIn wsX5_compare wsX5_play := goodIn_r _ [17, 18, 19, 20, 21, 22, 23, 24, 25, 26, 27, 28, 4, 29, 30, 31, 32, 33, 34, 35, 36, 37, 38, 39, 40, 41, 42, 43, 44, 45, 46, 1, 47, 48, 49, 50, 51, 52, 53, 54, 55, 56, 57, 58, 59, 60, 61, 62, 63, 64, 65, 66, 67, 68, 69, 70, 71, 72, 73, 74, 75, 95, 96, 97, 98, 99, 100, 101, 102, 103, 104, 105, 106, 107, 108, 109, 110, 111, 112, 113, 114, 115, 116, 117, 118] (by decide +kernel) (by decide +kernel)
set_option maxRecDepth 20000 in
theorem gX5_compare_X5_play : GoodIn wsX5_compare (wsV RX5 144 RX5 yX5_play wsX5_play) := goodIn_app (goodIn_of _ (by decide +kernel)) ggX5_compare_X5_play
set_option maxRecDepth 20000 in
theorem ggX5_compare_X5_late : GoodIn wsX5_compare wsX5_late := goodIn_r _ [79, 30, 80, 81, 82, 4, 83, 35, 36, 32, 84, 95, 96, 97, 98, 99, 100, 101, 102, 103, 104, 105, 106, 107, 108, 109, 110, 111, 112, 113, 114, 115, 116, 117, 118] (by decide +kernel) (by decide +kernel)
set_option maxRecDepth 20000 in
theorem gX5_compare_X5_late : GoodIn wsX5_compare (wsV RX5 147 RX5 yX5_late wsX5_late) := goodIn_app (goodIn_of _ (by decide +kernel)) ggX5_compare_X5_late
set_option maxRecDepth 20000 in
theorem ggX5_compare_X5_forget : GoodIn wsX5_compare wsX5_forget := goodIn_r _ [88, 30, 25, 19, 95, 96, 97, 98, 99, 100, 101, 102, 103, 104, 105, 106, 107, 108, 109, 110, 111, 112, 113, 114, 115, 116, 117, 118] (by decide +kernel) (by decide +kernel)
set_option maxRecDepth 20000 in
theorem gX5_compare_X5_forget : GoodIn wsX5_compare (wsV RX5 160 RX5 yX5_forget wsX5_forget) := goodIn_app (goodIn_of _ (by decide +kernel)) ggX5_compare_X5_forget
set_option maxRecDepth 20000 in
theorem ggX5_compare_X5_tail : GoodIn wsX5_compare wsX5_tail := goodIn_r _ [91] (by decide +kernel) (by decide +kernel)
set_option maxRecDepth 20000 in
theorem gX5_compare_X5_tail : GoodIn wsX5_compare (va_wsS RX5 163 yX5_tail wsX5_tail) := goodIn_app (goodIn_of _ (by decide +kernel)) ggX5_compare_X5_tail
set_option maxRecDepth 20000 in
theorem ggX5_compare_X5_common : GoodIn wsX5_compare wsX5_common := goodIn_r _ [94] (by decide +kernel) (by decide +kernel)
set_option maxRecDepth 20000 in
theorem gX5_compare_X5_common : GoodIn wsX5_compare (va_wsS RX5 154 yX5_common wsX5_common) := goodIn_app (goodIn_of _ (by decide +kernel)) ggX5_compare_X5_common
theorem dX5_compare_0 : decode cX5_compare 0 = .ok (.iload_n 1, 1) := by decide +kernel
theorem dX5_compare_1 : decode cX5_compare 1 = .ok (.iconst 0, 1) := by decide +kernel
theorem dX5_compare_2 : decode cX5_compare 2 = .ok (.iconst 3, 1) := by decide +kernel
theorem dX5_compare_3 : decode cX5_compare 3 = .ok (.invokestatic 68, 3) := by decide +kernel
theorem dX5_compare_6 : decode cX5_compare 6 = .ok (.ifCond .eq 22, 3) := by decide +kernel
theorem dX5_compare_9 : decode cX5_compare 9 = .ok (.iload_n 2, 1) := by decide +kernel
theorem dX5_compare_10 : decode cX5_compare 10 = .ok (.iconst 0, 1) := by decide +kernel
theorem dX5_compare_11 : decode cX5_compare 11 = .ok (.iconst 3, 1) := by decide +kernel
theorem dX5_compare_12 : decode cX5_compare 12 = .ok (.invokestatic 68, 3) := by decide +kernel
theorem dX5_compare_15 : decode cX5_compare 15 = .ok (.ifCond .eq 13, 3) := by decide +kernel
theorem dX5_compare_18 : decode cX5_compare 18 = .ok (.iload 6, 2) := by decide +kernel
theorem dX5_compare_20 : decode cX5_compare 20 = .ok (.iconst 0, 1) := by decide +kernel
theorem dX5_compare_21 : decode cX5_compare 21 = .ok (.iconst 3, 1) := by decide +kernel
theorem dX5_compare_22 : decode cX5_compare 22 = .ok (.invokestatic 68, 3) := by decide +kernel
theorem dX5_compare_25 : decode cX5_compare 25 = .ok (.ifCond .ne 7, 3) := by decide +kernel
theorem dX5_compare_28 : decode cX5_compare 28 = .ok (.iconst 1, 1) := by decide +kernel
theorem dX5_compare_29 : decode cX5_compare 29 = .ok (.goto 4, 3) := by decide +kernel
theorem dX5_compare_32 : decode cX5_compare 32 = .ok (.iconst 0, 1) := by decide +kernel
theorem dX5_compare_33 : decode cX5_compare 33 = .ok (.istore 7, 2) := by decide +kernel
theorem dX5_compare_35 : decode cX5_compare 35 = .ok (.iload 5, 2) := by decide +kernel
theorem dX5_compare_37 : decode cX5_compare 37 = .ok (.iconst 1, 1) := by decide +kernel
theorem dX5_compare_38 : decode cX5_compare 38 = .ok (.bipush 20, 2) := by decide +kernel
theorem dX5_compare_40 : decode cX5_compare 40 = .ok (.invokestatic 68, 3) := by decide +kernel
theorem dX5_compare_43 : decode cX5_compare 43 = .ok (.ifCond .eq 22, 3) := by decide +kernel
theorem dX5_compare_46 : decode cX5_compare 46 = .ok (.iload 4, 2) := by decide +kernel
theorem dX5_compare_48 : decode cX5_compare 48 = .ok (.invokestatic 141, 3) := by decide +kernel
theorem dX5_compare_51 : decode cX5_compare 51 = .ok (.ifCond .eq 14, 3) := by decide +kernel
theorem dX5_compare_54 : decode cX5_compare 54 = .ok (.iload 4, 2) := by decide +kernel
theorem dX5_compare_56 : decode cX5_compare 56 = .ok (.iload 5, 2) := by decide +kernel
theorem dX5_compare_58 : decode cX5_compare 58 = .ok (.iadd, 1) := by decide +kernel
theorem dX5_compare_59 : decode cX5_compare 59 = .ok (.sipush 1000, 3) := by decide +kernel
theorem dX5_compare_62 : decode cX5_compare 62 = .ok (.if_icmp .le 7, 3) := by decide +kernel
theorem dX5_compare_65 : decode cX5_compare 65 = .ok (.iconst 1, 1) := by decide +kernel
theorem dX5_compare_66 : decode cX5_compare 66 = .ok (.goto 4, 3) := by decide +kernel
theorem dX5_compare_69 : decode cX5_compare 69 = .ok (.iconst 0, 1) := by decide +kernel
theorem dX5_compare_70 : decode cX5_compare 70 = .ok (.istore 8, 2) := by decide +kernel
theorem dX5_compare_72 : decode cX5_compare 72 = .ok (.aload_n 0, 1) := by decide +kernel
theorem dX5_compare_73 : decode cX5_compare 73 = .ok (.iload 7, 2) := by decide +kernel
theorem dX5_compare_75 : decode cX5_compare 75 = .ok (.iload 8, 2) := by decide +kernel
theorem dX5_compare_77 : decode cX5_compare 77 = .ok (.aload_n 0, 1) := by decide +kernel
theorem dX5_compare_78 : decode cX5_compare 78 = .ok (.getfield 83, 3) := by decide +kernel
theorem dX5_compare_81 : decode cX5_compare 81 = .ok (.ifCond .ne 7, 3) := by decide +kernel
theorem dX5_compare_84 : decode cX5_compare 84 = .ok (.iconst 1, 1) := by decide +kernel
theorem dX5_compare_85 : decode cX5_compare 85 = .ok (.goto 4, 3) := by decide +kernel
theorem dX5_compare_88 : decode cX5_compare 88 = .ok (.iconst 0, 1) := by decide +kernel
theorem dX5_compare_89 : decode cX5_compare 89 = .ok (.invokevirtual 79, 3) := by decide +kernel
theorem dX5_compare_92 : decode cX5_compare 92 = .ok (.ifCond .eq 5, 3) := by decide +kernel
theorem dX5_compare_95 : decode cX5_compare 95 = .ok (.iconst 0, 1) := by decide +kernel
theorem dX5_compare_96 : decode cX5_compare 96 = .ok (.ireturn, 1) := by decide +kernel
theorem dX5_compare_97 : decode cX5_compare 97 = .ok (.iconst 0, 1) := by decide +kernel
theorem dX5_compare_98 : decode cX5_compare 98 = .ok (.istore 9, 2) := by decide +kernel
theorem dX5_compare_100 : decode cX5_compare 100 = .ok (.iconst 0, 1) := by decide +kernel
theorem dX5_compare_101 : decode cX5_compare 101 = .ok (.istore 10, 2) := by decide +kernel
theorem dX5_compare_103 : decode cX5_compare 103 = .ok (.iconst 0, 1) := by decide +kernel
theorem dX5_compare_104 : decode cX5_compare 104 = .ok (.istore 11, 2) := by decide +kernel
theorem dX5_compare_106 : decode cX5_compare 106 = .ok (.iload 11, 2) := by decide +kernel
theorem dX5_compare_108 : decode cX5_compare 108 = .ok (.iload 5, 2) := by decide +kernel
theorem dX5_compare_110 : decode cX5_compare 110 = .ok (.if_icmp .ge 81, 3) := by decide +kernel
theorem dX5_compare_113 : decode cX5_compare 113 = .ok (.aload_n 0, 1) := by decide +kernel
theorem dX5_compare_114 : decode cX5_compare 114 = .ok (.iload_n 1, 1) := by decide +kernel
theorem dX5_compare_115 : decode cX5_compare 115 = .ok (.iload_n 3, 1) := by decide +kernel
theorem dX5_compare_116 : decode cX5_compare 116 = .ok (.iload 4, 2) := by decide +kernel
theorem dX5_compare_118 : decode cX5_compare 118 = .ok (.iload 11, 2) := by decide +kernel
theorem dX5_compare_120 : decode cX5_compare 120 = .ok (.iadd, 1) := by decide +kernel
theorem dX5_compare_121 : decode cX5_compare 121 = .ok (.bipush 12, 2) := by decide +kernel
theorem dX5_compare_123 : decode cX5_compare 123 = .ok (.invokevirtual 144, 3) := by decide +kernel
theorem dX5_compare_126 : decode cX5_compare 126 = .ok (.aload_n 0, 1) := by decide +kernel
theorem dX5_compare_127 : decode cX5_compare 127 = .ok (.invokevirtual 147, 3) := by decide +kernel
theorem dX5_compare_130 : decode cX5_compare 130 = .ok (.istore 12, 2) := by decide +kernel
theorem dX5_compare_132 : decode cX5_compare 132 = .ok (.aload_n 0, 1) := by decide +kernel
theorem dX5_compare_133 : decode cX5_compare 133 = .ok (.iload_n 2, 1) := by decide +kernel
theorem dX5_compare_134 : decode cX5_compare 134 = .ok (.iload_n 3, 1) := by decide +kernel
theorem dX5_compare_135 : decode cX5_compare 135 = .ok (.iload 4, 2) := by decide +kernel
theorem dX5_compare_137 : decode cX5_compare 137 = .ok (.iload 11, 2) := by decide +kernel
theorem dX5_compare_139 : decode cX5_compare 139 = .ok (.iadd, 1) := by decide +kernel
theorem dX5_compare_140 : decode cX5_compare 140 = .ok (.bipush 12, 2) := by decide +kernel
theorem dX5_compare_142 : decode cX5_compare 142 = .ok (.invokevirtual 144, 3) := by decide +kernel
theorem dX5_compare_145 : decode cX5_compare 145 = .ok (.aload_n 0, 1) := by decide +kernel
theorem dX5_compare_146 : decode cX5_compare 146 = .ok (.invokevirtual 147, 3) := by decide +kernel
theorem dX5_compare_149 : decode cX5_compare 149 = .ok (.istore 13, 2) := by decide +kernel
theorem dX5_compare_151 : decode cX5_compare 151 = .ok (.iload 9, 2) := by decide +kernel
theorem dX5_compare_153 : decode cX5_compare 153 = .ok (.iload 12, 2) := by decide +kernel
theorem dX5_compare_155 : decode cX5_compare 155 = .ok (.iload 13, 2) := by decide +kernel
theorem dX5_compare_157 : decode cX5_compare 157 = .ok (.if_icmp .ge 7, 3) := by decide +kernel
theorem dX5_compare_160 : decode cX5_compare 160 = .ok (.iconst 1, 1) := by decide +kernel
theorem dX5_compare_161 : decode cX5_compare 161 = .ok (.goto 4, 3) := by decide +kernel
theorem dX5_compare_164 : decode cX5_compare 164 = .ok (.iconst 0, 1) := by decide +kernel
theorem dX5_compare_165 : decode cX5_compare 165 = .ok (.iadd, 1) := by decide +kernel
theorem dX5_compare_166 : decode cX5_compare 166 = .ok (.istore 9, 2) := by decide +kernel
theorem dX5_compare_168 : decode cX5_compare 168 = .ok (.iload 10, 2) := by decide +kernel
theorem dX5_compare_170 : decode cX5_compare 170 = .ok (.iload 12, 2) := by decide +kernel
theorem dX5_compare_172 : decode cX5_compare 172 = .ok (.iload 13, 2) := by decide +kernel
theorem dX5_compare_174 : decode cX5_compare 174 = .ok (.if_icmp .le 7, 3) := by decide +kernel
theorem dX5_compare_177 : decode cX5_compare 177 = .ok (.iconst 1, 1) := by decide +kernel
theorem dX5_compare_178 : decode cX5_compare 178 = .ok (.goto 4, 3) := by decide +kernel
theorem dX5_compare_181 : decode cX5_compare 181 = .ok (.iconst 0, 1) := by decide +kernel
theorem dX5_compare_182 : decode cX5_compare 182 = .ok (.iadd, 1) := by decide +kernel
theorem dX5_compare_183 : decode cX5_compare 183 = .ok (.istore 10, 2) := by decide +kernel
theorem dX5_compare_185 : decode cX5_compare 185 = .ok (.iinc 11 1, 3) := by decide +kernel
theorem dX5_compare_188 : decode cX5_compare 188 = .ok (.goto (-82), 3) := by decide +kernel
theorem dX5_compare_191 : decode cX5_compare 191 = .ok (.aload_n 0, 1) := by decide +kernel
theorem dX5_compare_192 : decode cX5_compare 192 = .ok (.invokevirtual 160, 3) := by decide +kernel
theorem dX5_compare_195 : decode cX5_compare 195 = .ok (.iload 6, 2) := by decide +kernel
theorem dX5_compare_197 : decode cX5_compare 197 = .ok (.iconst 2, 1) := by decide +kernel
theorem dX5_compare_198 : decode cX5_compare 198 = .ok (.if_icmp .ge 16, 3) := by decide +kernel
theorem dX5_compare_201 : decode cX5_compare 201 = .ok (.iload 6, 2) := by decide +kernel
theorem dX5_compare_203 : decode cX5_compare 203 = .ok (.ifCond .ne 8, 3) := by decide +kernel
theorem dX5_compare_206 : decode cX5_compare 206 = .ok (.iload 9, 2) := by decide +kernel
theorem dX5_compare_208 : decode cX5_compare 208 = .ok (.goto 5, 3) := by decide +kernel
theorem dX5_compare_211 : decode cX5_compare 211 = .ok (.iload 10, 2) := by decide +kernel
theorem dX5_compare_213 : decode cX5_compare 213 = .ok (.ireturn, 1) := by decide +kernel
theorem dX5_compare_214 : decode cX5_compare 214 = .ok (.lconst 1, 1) := by decide +kernel
theorem dX5_compare_215 : decode cX5_compare 215 = .ok (.iload 9, 2) := by decide +kernel
theorem dX5_compare_217 : decode cX5_compare 217 = .ok (.iload 10, 2) := by decide +kernel
theorem dX5_compare_219 : decode cX5_compare 219 = .ok (.iadd, 1) := by decide +kernel
theorem dX5_compare_220 : decode cX5_compare 220 = .ok (.lshl, 1) := by decide +kernel
theorem dX5_compare_221 : decode cX5_compare 221 = .ok (.lstore 11, 2) := by decide +kernel
theorem dX5_compare_223 : decode cX5_compare 223 = .ok (.iload 9, 2) := by decide +kernel
theorem dX5_compare_225 : decode cX5_compare 225 = .ok (.iload 10, 2) := by decide +kernel
theorem dX5_compare_227 : decode cX5_compare 227 = .ok (.iadd, 1) := by decide +kernel
theorem dX5_compare_228 : decode cX5_compare 228 = .ok (.iload 9, 2) := by decide +kernel
theorem dX5_compare_230 : decode cX5_compare 230 = .ok (.invokestatic 163, 3) := by decide +kernel
theorem dX5_compare_233 : decode cX5_compare 233 = .ok (.lstore 13, 2) := by decide +kernel
theorem dX5_compare_235 : decode cX5_compare 235 = .ok (.iload 6, 2) := by decide +kernel
theorem dX5_compare_237 : decode cX5_compare 237 = .ok (.iconst 2, 1) := by decide +kernel
theorem dX5_compare_238 : decode cX5_compare 238 = .ok (.if_icmp .ne 8, 3) := by decide +kernel
theorem dX5_compare_241 : decode cX5_compare 241 = .ok (.lload 13, 2) := by decide +kernel
theorem dX5_compare_243 : decode cX5_compare 243 = .ok (.goto 5, 3) := by decide +kernel
theorem dX5_compare_246 : decode cX5_compare 246 = .ok (.lload 11, 2) := by decide +kernel
theorem dX5_compare_248 : decode cX5_compare 248 = .ok (.lload 13, 2) := by decide +kernel
theorem dX5_compare_250 : decode cX5_compare 250 = .ok (.lload 11, 2) := by decide +kernel
theorem dX5_compare_252 : decode cX5_compare 252 = .ok (.invokestatic 154, 3) := by decide +kernel
theorem dX5_compare_255 : decode cX5_compare 255 = .ok (.ldiv, 1) := by decide +kernel
theorem dX5_compare_256 : decode cX5_compare 256 = .ok (.l2i, 1) := by decide +kernel
theorem dX5_compare_257 : decode cX5_compare 257 = .ok (.ireturn, 1) := by decide +kernel
theorem dJ9_abs_0f7a4_0 : decode cJ9_abs_0f7a4 0 = .ok (.iload_n 0, 1) := by decide +kernel
theorem dJ9_abs_0f7a4_1 : decode cJ9_abs_0f7a4 1 = .ok (.ifCond .ge 8, 3) := by decide +kernel
theorem dJ9_abs_0f7a4_4 : decode cJ9_abs_0f7a4 4 = .ok (.iload_n 0, 1) := by decide +kernel
theorem dJ9_abs_0f7a4_5 : decode cJ9_abs_0f7a4 5 = .ok (.ineg, 1) := by decide +kernel
theorem dJ9_abs_0f7a4_6 : decode cJ9_abs_0f7a4 6 = .ok (.goto 4, 3) := by decide +kernel
theorem dJ9_abs_0f7a4_9 : decode cJ9_abs_0f7a4 9 = .ok (.iload_n 0, 1) := by decide +kernel
theorem dJ9_abs_0f7a4_10 : decode cJ9_abs_0f7a4 10 = .ok (.ireturn, 1) := by decide +kernel
theorem dJ9_max_7cf53_0 : decode cJ9_max_7cf53 0 = .ok (.iload_n 0, 1) := by decide +kernel
theorem dJ9_max_7cf53_1 : decode cJ9_max_7cf53 1 = .ok (.iload_n 1, 1) := by decide +kernel
theorem dJ9_max_7cf53_2 : decode cJ9_max_7cf53 2 = .ok (.if_icmp .lt 7, 3) := by decide +kernel
theorem dJ9_max_7cf53_5 : decode cJ9_max_7cf53 5 = .ok (.iload_n 0, 1) := by decide +kernel
theorem dJ9_max_7cf53_6 : decode cJ9_max_7cf53 6 = .ok (.goto 4, 3) := by decide +kernel
theorem dJ9_max_7cf53_9 : decode cJ9_max_7cf53 9 = .ok (.iload_n 1, 1) := by decide +kernel
theorem dJ9_max_7cf53_10 : decode cJ9_max_7cf53 10 = .ok (.ireturn, 1) := by decide +kernel
theorem dJ9_min_7cf53_0 : decode cJ9_min_7cf53 0 = .ok (.iload_n 0, 1) := by decide +kernel
theorem dJ9_min_7cf53_1 : decode cJ9_min_7cf53 1 = .ok (.iload_n 1, 1) := by decide +kernel
theorem dJ9_min_7cf53_2 : decode cJ9_min_7cf53 2 = .ok (.if_icmp .gt 7, 3) := by decide +kernel
theorem dJ9_min_7cf53_5 : decode cJ9_min_7cf53 5 = .ok (.iload_n 0, 1) := by decide +kernel
theorem dJ9_min_7cf53_6 : decode cJ9_min_7cf53 6 = .ok (.goto 4, 3) := by decide +kernel
theorem dJ9_min_7cf53_9 : decode cJ9_min_7cf53 9 = .ok (.iload_n 1, 1) := by decide +kernel
theorem dJ9_min_7cf53_10 : decode cJ9_min_7cf53 10 = .ok (.ireturn, 1) := by decide +kernel
set_option maxRecDepth 20000 in
theorem ggL_station_X4_station : GoodIn wsL_station wsX4_station := goodIn_ca (goodIn_ca (goodIn_r _ [7, 8, 9, 10, 11, 6, 12, 13, 14, 15, 16, 17, 18, 19, 20, 21, 22, 23, 24, 25, 26, 27, 28, 29, 30, 31, 32, 33, 34, 35, 36, 37, 38, 39, 40, 41, 42, 43, 44, 45, 46] (by decide +kernel) (by decide +kernel)) (goodIn_sub (fun _ h => List.mem_cons_of_mem _ (List.mem_append_left _ (List.mem_append_right _ h))) (by decide +kernel))) (goodIn_sub (fun _ h => List.mem_cons_of_mem _ (List.mem_append_right _ h)) (by decide +kernel))
set_option maxRecDepth 20000 in
theorem gL_station_X4_station : GoodIn wsL_station (wsV RL 7 RX4 yX4_station wsX4_station) := goodIn_app (goodIn_of _ (by decide +kernel)) ggL_station_X4_station
theorem dL_station_0 : decode cL_station 0 = .ok (.aload_n 3, 1) := by decide +kernel
theorem dL_station_1 : decode cL_station 1 = .ok (.iconst 0, 1) := by decide +kernel
theorem dL_station_2 : decode cL_station 2 = .ok (.aload_n 0, 1) := by decide +kernel
theorem dL_station_3 : decode cL_station 3 = .ok (.iload_n 1, 1) := by decide +kernel
theorem dL_station_4 : decode cL_station 4 = .ok (.iload_n 2, 1) := by decide +kernel
theorem dL_station_5 : decode cL_station 5 = .ok (.invokevirtual 7, 3) := by decide +kernel
theorem dL_station_8 : decode cL_station 8 = .ok (.i2l, 1) := by decide +kernel
theorem dL_station_9 : decode cL_station 9 = .ok (.lastore, 1) := by decide +kernel
theorem dL_station_10 : decode cL_station 10 = .ok (.goto 11, 3) := by decide +kernel
theorem dL_station_13 : decode cL_station 13 = .ok (.astore 4, 2) := by decide +kernel
theorem dL_station_15 : decode cL_station 15 = .ok (.iconst 1, 1) := by decide +kernel
theorem dL_station_16 : decode cL_station 16 = .ok (.ireturn, 1) := by decide +kernel
theorem dL_station_17 : decode cL_station 17 = .ok (.astore 4, 2) := by decide +kernel
theorem dL_station_19 : decode cL_station 19 = .ok (.iconst 2, 1) := by decide +kernel
theorem dL_station_20 : decode cL_station 20 = .ok (.ireturn, 1) := by decide +kernel
theorem dL_station_21 : decode cL_station 21 = .ok (.iconst 0, 1) := by decide +kernel
theorem dL_station_22 : decode cL_station 22 = .ok (.ireturn, 1) := by decide +kernel
set_option maxRecDepth 20000 in
theorem ggL_area_X4_area : GoodIn wsL_area wsX4_area := goodIn_ca (goodIn_ca (goodIn_r _ [7, 8, 9, 10, 11, 6, 12, 13, 14, 15, 16, 17, 18, 19, 20, 21, 22, 23, 24, 25, 26, 27, 28, 29, 30, 31, 32, 33, 34, 35, 36, 37, 38, 39, 40, 41, 42, 43, 44, 45, 46, 47, 48, 49, 50, 51] (by decide +kernel) (by decide +kernel)) (goodIn_sub (fun _ h => List.mem_cons_of_mem _ (List.mem_append_left _ (List.mem_append_right _ h))) (by decide +kernel))) (goodIn_sub (fun _ h => List.mem_cons_of_mem _ (List.mem_append_right _ h)) (by decide +kernel))
set_option maxRecDepth 20000 in
theorem gL_area_X4_area : GoodIn wsL_area (wsV RL 17 RX4 yX4_area wsX4_area) := goodIn_app (goodIn_of _ (by decide +kernel)) ggL_area_X4_area
theorem dL_area_0 : decode cL_area 0 = .ok (.aload 4, 2) := by decide +kernel
theorem dL_area_2 : decode cL_area 2 = .ok (.iconst 0, 1) := by decide +kernel
theorem dL_area_3 : decode cL_area 3 = .ok (.aload_n 0, 1) := by decide +kernel
theorem dL_area_4 : decode cL_area 4 = .ok (.iload_n 1, 1) := by decide +kernel
theorem dL_area_5 : decode cL_area 5 = .ok (.iload_n 2, 1) := by decide +kernel
theorem dL_area_6 : decode cL_area 6 = .ok (.iload_n 3, 1) := by decide +kernel
theorem dL_area_7 : decode cL_area 7 = .ok (.invokevirtual 17, 3) := by decide +kernel
theorem dL_area_10 : decode cL_area 10 = .ok (.i2l, 1) := by decide +kernel
theorem dL_area_11 : decode cL_area 11 = .ok (.lastore, 1) := by decide +kernel
theorem dL_area_12 : decode cL_area 12 = .ok (.goto 11, 3) := by decide +kernel
theorem dL_area_15 : decode cL_area 15 = .ok (.astore 5, 2) := by decide +kernel
theorem dL_area_17 : decode cL_area 17 = .ok (.iconst 1, 1) := by decide +kernel
theorem dL_area_18 : decode cL_area 18 = .ok (.ireturn, 1) := by decide +kernel
theorem dL_area_19 : decode cL_area 19 = .ok (.astore 5, 2) := by decide +kernel
theorem dL_area_21 : decode cL_area 21 = .ok (.iconst 2, 1) := by decide +kernel
theorem dL_area_22 : decode cL_area 22 = .ok (.ireturn, 1) := by decide +kernel
theorem dL_area_23 : decode cL_area 23 = .ok (.iconst 0, 1) := by decide +kernel
theorem dL_area_24 : decode cL_area 24 = .ok (.ireturn, 1) := by decide +kernel
set_option maxRecDepth 20000 in
theorem ggL_unit_X4_unit : GoodIn wsL_unit wsX4_unit := goodIn_ca (goodIn_ca (goodIn_ca (goodIn_r _ [8, 9, 10, 11, 12, 13, 14, 7, 15, 16, 17, 18, 19, 20, 21, 22, 23, 24, 25, 26, 27, 28, 29, 30, 31, 32, 33, 34, 35, 36, 37, 38, 39, 40, 41, 42, 43, 44, 45, 46, 47, 48, 49, 50, 51, 52, 53, 54, 55, 56, 57, 58, 59, 60] (by decide +kernel) (by decide +kernel)) (goodIn_sub (fun _ h => List.mem_cons_of_mem _ (List.mem_append_left _ (List.mem_append_left _ (List.mem_append_right _ h)))) (by decide +kernel))) (goodIn_sub (fun _ h => List.mem_cons_of_mem _ (List.mem_append_left _ (List.mem_append_right _ h))) (by decide +kernel))) (goodIn_sub (fun _ h => List.mem_cons_of_mem _ (List.mem_append_right _ h)) (by decide +kernel))
set_option maxRecDepth 20000 in
theorem gL_unit_X4_unit : GoodIn wsL_unit (wsV RL 21 RX4 yX4_unit wsX4_unit) := goodIn_app (goodIn_of _ (by decide +kernel)) ggL_unit_X4_unit
theorem dL_unit_0 : decode cL_unit 0 = .ok (.aload_n 2, 1) := by decide +kernel
theorem dL_unit_1 : decode cL_unit 1 = .ok (.iconst 0, 1) := by decide +kernel
theorem dL_unit_2 : decode cL_unit 2 = .ok (.aload_n 0, 1) := by decide +kernel
theorem dL_unit_3 : decode cL_unit 3 = .ok (.iload_n 1, 1) := by decide +kernel
theorem dL_unit_4 : decode cL_unit 4 = .ok (.invokevirtual 21, 3) := by decide +kernel
theorem dL_unit_7 : decode cL_unit 7 = .ok (.i2l, 1) := by decide +kernel
theorem dL_unit_8 : decode cL_unit 8 = .ok (.lastore, 1) := by decide +kernel
theorem dL_unit_9 : decode cL_unit 9 = .ok (.goto 12, 3) := by decide +kernel
theorem dL_unit_12 : decode cL_unit 12 = .ok (.astore_n 3, 1) := by decide +kernel
theorem dL_unit_13 : decode cL_unit 13 = .ok (.iconst 1, 1) := by decide +kernel
theorem dL_unit_14 : decode cL_unit 14 = .ok (.ireturn, 1) := by decide +kernel
theorem dL_unit_15 : decode cL_unit 15 = .ok (.astore_n 3, 1) := by decide +kernel
theorem dL_unit_16 : decode cL_unit 16 = .ok (.iconst 2, 1) := by decide +kernel
theorem dL_unit_17 : decode cL_unit 17 = .ok (.ireturn, 1) := by decide +kernel
theorem dL_unit_18 : decode cL_unit 18 = .ok (.astore_n 3, 1) := by decide +kernel
theorem dL_unit_19 : decode cL_unit 19 = .ok (.iconst 3, 1) := by decide +kernel
theorem dL_unit_20 : decode cL_unit 20 = .ok (.ireturn, 1) := by decide +kernel
theorem dL_unit_21 : decode cL_unit 21 = .ok (.iconst 0, 1) := by decide +kernel
theorem dL_unit_22 : decode cL_unit 22 = .ok (.ireturn, 1) := by decide +kernel
set_option maxRecDepth 20000 in
theorem ggL_change_X4_change : GoodIn wsL_change wsX4_change := goodIn_ca (goodIn_ca (goodIn_r _ [7, 8, 9, 10, 11, 12, 13, 14, 6, 15, 16, 17, 18, 19, 20, 21, 22, 23, 24, 25, 26, 27, 28, 29, 30, 31, 32, 33, 34, 35, 36, 37, 38, 39, 40, 41, 42, 43, 44, 45, 46, 47, 48, 49, 50] (by decide +kernel) (by decide +kernel)) (goodIn_sub (fun _ h => List.mem_cons_of_mem _ (List.mem_append_left _ (List.mem_append_right _ h))) (by decide +kernel))) (goodIn_sub (fun _ h => List.mem_cons_of_mem _ (List.mem_append_right _ h)) (by decide +kernel))
set_option maxRecDepth 20000 in
theorem gL_change_X4_change : GoodIn wsL_change (wsV RL 29 RX4 yX4_change wsX4_change) := goodIn_app (goodIn_of _ (by decide +kernel)) ggL_change_X4_change
theorem dL_change_0 : decode cL_change 0 = .ok (.aload_n 0, 1) := by decide +kernel
theorem dL_change_1 : decode cL_change 1 = .ok (.iload_n 1, 1) := by decide +kernel
theorem dL_change_2 : decode cL_change 2 = .ok (.iload_n 2, 1) := by decide +kernel
theorem dL_change_3 : decode cL_change 3 = .ok (.iload_n 3, 1) := by decide +kernel
theorem dL_change_4 : decode cL_change 4 = .ok (.invokevirtual 29, 3) := by decide +kernel
theorem dL_change_7 : decode cL_change 7 = .ok (.goto 11, 3) := by decide +kernel
theorem dL_change_10 : decode cL_change 10 = .ok (.astore 4, 2) := by decide +kernel
theorem dL_change_12 : decode cL_change 12 = .ok (.iconst 1, 1) := by decide +kernel
theorem dL_change_13 : decode cL_change 13 = .ok (.ireturn, 1) := by decide +kernel
theorem dL_change_14 : decode cL_change 14 = .ok (.astore 4, 2) := by decide +kernel
theorem dL_change_16 : decode cL_change 16 = .ok (.iconst 2, 1) := by decide +kernel
theorem dL_change_17 : decode cL_change 17 = .ok (.ireturn, 1) := by decide +kernel
theorem dL_change_18 : decode cL_change 18 = .ok (.iconst 0, 1) := by decide +kernel
theorem dL_change_19 : decode cL_change 19 = .ok (.ireturn, 1) := by decide +kernel
set_option maxRecDepth 20000 in
theorem ggL_rules_X4_rules : GoodIn wsL_rules wsX4_rules := goodIn_ca (goodIn_r _ [6, 7, 8, 9, 10, 5, 11, 12, 13, 14, 15, 16, 17, 18, 19, 20, 21] (by decide +kernel) (by decide +kernel)) (goodIn_sub (fun _ h => List.mem_cons_of_mem _ (List.mem_append_right _ h)) (by decide +kernel))
set_option maxRecDepth 20000 in
theorem gL_rules_X4_rules : GoodIn wsL_rules (wsV RL 33 RX4 yX4_rules wsX4_rules) := goodIn_app (goodIn_of _ (by decide +kernel)) ggL_rules_X4_rules
theorem dL_rules_0 : decode cL_rules 0 = .ok (.aload_n 0, 1) := by decide +kernel
theorem dL_rules_1 : decode cL_rules 1 = .ok (.iload_n 1, 1) := by decide +kernel
theorem dL_rules_2 : decode cL_rules 2 = .ok (.iload_n 2, 1) := by decide +kernel
theorem dL_rules_3 : decode cL_rules 3 = .ok (.invokevirtual 33, 3) := by decide +kernel
theorem dL_rules_6 : decode cL_rules 6 = .ok (.goto 6, 3) := by decide +kernel
theorem dL_rules_9 : decode cL_rules 9 = .ok (.astore_n 3, 1) := by decide +kernel
theorem dL_rules_10 : decode cL_rules 10 = .ok (.iconst 1, 1) := by decide +kernel
theorem dL_rules_11 : decode cL_rules 11 = .ok (.ireturn, 1) := by decide +kernel
theorem dL_rules_12 : decode cL_rules 12 = .ok (.iconst 0, 1) := by decide +kernel
theorem dL_rules_13 : decode cL_rules 13 = .ok (.ireturn, 1) := by decide +kernel
set_option maxRecDepth 20000 in
theorem ggL_run_X4_run : GoodIn wsL_run wsX4_run := goodIn_ca (goodIn_ca (goodIn_ca (goodIn_r _ [8, 9, 10, 11, 12, 7, 13, 14, 15, 16, 17, 18, 19, 20, 21, 22, 23, 24, 25, 26, 27, 28, 29, 30, 31, 32, 33, 34, 35, 36, 37, 38, 39, 40, 41, 42, 43, 44, 45, 46, 47, 48, 49, 50, 51, 52, 53, 54, 55, 56, 57, 58, 59, 60, 61, 62, 63, 64, 65, 66, 67, 68, 69, 70, 71, 72, 73, 74, 75, 76, 77, 78, 79, 80, 81, 82, 83, 84, 85, 86, 87, 88, 89, 90, 91, 92, 93, 94, 95, 96, 97, 98, 99, 100, 101, 102, 103, 104, 105, 106, 107, 108, 109, 110, 111, 112, 113, 114, 115, 116, 117, 118, 119, 120, 121, 122, 123, 124, 125, 126, 127, 128, 129, 130, 131, 132, 133, 134, 135, 136, 137, 138, 139, 140, 141, 142, 143, 144, 145, 146, 147, 148, 149, 150, 151, 152, 153, 154, 155, 156, 157, 158, 159, 160, 161, 162, 163, 164, 165, 166, 167, 168, 169, 170, 171, 172, 173, 174, 175, 176, 177, 178, 179, 180, 181, 182, 183, 184, 185, 186, 187, 188, 189, 190] (by decide +kernel) (by decide +kernel)) (goodIn_sub (fun _ h => List.mem_cons_of_mem _ (List.mem_append_left _ (List.mem_append_left _ (List.mem_append_right _ h)))) (by decide +kernel))) (goodIn_sub (fun _ h => List.mem_cons_of_mem _ (List.mem_append_left _ (List.mem_append_right _ h))) (by decide +kernel))) (goodIn_sub (fun _ h => List.mem_cons_of_mem _ (List.mem_append_right _ h)) (by decide +kernel))
set_option maxRecDepth 20000 in
theorem gL_run_X4_run : GoodIn wsL_run (wsV RL 37 RX4 yX4_run wsX4_run) := goodIn_app (goodIn_of _ (by decide +kernel)) ggL_run_X4_run
theorem dL_run_0 : decode cL_run 0 = .ok (.aload 5, 2) := by decide +kernel
theorem dL_run_2 : decode cL_run 2 = .ok (.iconst 0, 1) := by decide +kernel
theorem dL_run_3 : decode cL_run 3 = .ok (.aload_n 0, 1) := by decide +kernel
theorem dL_run_4 : decode cL_run 4 = .ok (.iload_n 1, 1) := by decide +kernel
theorem dL_run_5 : decode cL_run 5 = .ok (.iload_n 2, 1) := by decide +kernel
theorem dL_run_6 : decode cL_run 6 = .ok (.iload_n 3, 1) := by decide +kernel
theorem dL_run_7 : decode cL_run 7 = .ok (.iload 4, 2) := by decide +kernel
theorem dL_run_9 : decode cL_run 9 = .ok (.invokevirtual 37, 3) := by decide +kernel
theorem dL_run_12 : decode cL_run 12 = .ok (.i2l, 1) := by decide +kernel
theorem dL_run_13 : decode cL_run 13 = .ok (.lastore, 1) := by decide +kernel
theorem dL_run_14 : decode cL_run 14 = .ok (.goto 15, 3) := by decide +kernel
theorem dL_run_17 : decode cL_run 17 = .ok (.astore 6, 2) := by decide +kernel
theorem dL_run_19 : decode cL_run 19 = .ok (.iconst 1, 1) := by decide +kernel
theorem dL_run_20 : decode cL_run 20 = .ok (.ireturn, 1) := by decide +kernel
theorem dL_run_21 : decode cL_run 21 = .ok (.astore 6, 2) := by decide +kernel
theorem dL_run_23 : decode cL_run 23 = .ok (.iconst 2, 1) := by decide +kernel
theorem dL_run_24 : decode cL_run 24 = .ok (.ireturn, 1) := by decide +kernel
theorem dL_run_25 : decode cL_run 25 = .ok (.astore 6, 2) := by decide +kernel
theorem dL_run_27 : decode cL_run 27 = .ok (.iconst 3, 1) := by decide +kernel
theorem dL_run_28 : decode cL_run 28 = .ok (.ireturn, 1) := by decide +kernel
theorem dL_run_29 : decode cL_run 29 = .ok (.iconst 0, 1) := by decide +kernel
theorem dL_run_30 : decode cL_run 30 = .ok (.ireturn, 1) := by decide +kernel
set_option maxRecDepth 20000 in
theorem ggL_call_X4_call : GoodIn wsL_call wsX4_call := goodIn_ca (goodIn_r _ [6, 7, 8, 9, 10, 11, 12, 13, 14, 15, 16, 17, 18, 5, 19, 20, 21, 22, 23, 24, 25, 26, 27, 28, 29, 30, 31, 32, 33, 34, 35, 36, 37, 38, 39, 40, 41, 42, 43, 44, 45, 46, 47, 48, 49, 50, 51, 52, 53, 54, 55, 56, 57, 58, 59, 60, 61, 62] (by decide +kernel) (by decide +kernel)) (goodIn_sub (fun _ h => List.mem_cons_of_mem _ (List.mem_append_right _ h)) (by decide +kernel))
set_option maxRecDepth 20000 in
theorem gL_call_X4_call : GoodIn wsL_call (wsV RL 41 RX4 yX4_call wsX4_call) := goodIn_app (goodIn_of _ (by decide +kernel)) ggL_call_X4_call
theorem dL_call_0 : decode cL_call 0 = .ok (.aload_n 3, 1) := by decide +kernel
theorem dL_call_1 : decode cL_call 1 = .ok (.iconst 0, 1) := by decide +kernel
theorem dL_call_2 : decode cL_call 2 = .ok (.aload_n 0, 1) := by decide +kernel
theorem dL_call_3 : decode cL_call 3 = .ok (.iload_n 1, 1) := by decide +kernel
theorem dL_call_4 : decode cL_call 4 = .ok (.iload_n 2, 1) := by decide +kernel
theorem dL_call_5 : decode cL_call 5 = .ok (.invokevirtual 41, 3) := by decide +kernel
theorem dL_call_8 : decode cL_call 8 = .ok (.i2l, 1) := by decide +kernel
theorem dL_call_9 : decode cL_call 9 = .ok (.lastore, 1) := by decide +kernel
theorem dL_call_10 : decode cL_call 10 = .ok (.goto 7, 3) := by decide +kernel
theorem dL_call_13 : decode cL_call 13 = .ok (.astore 4, 2) := by decide +kernel
theorem dL_call_15 : decode cL_call 15 = .ok (.iconst 1, 1) := by decide +kernel
theorem dL_call_16 : decode cL_call 16 = .ok (.ireturn, 1) := by decide +kernel
theorem dL_call_17 : decode cL_call 17 = .ok (.iconst 0, 1) := by decide +kernel
theorem dL_call_18 : decode cL_call 18 = .ok (.ireturn, 1) := by decide +kernel
set_option maxRecDepth 20000 in
theorem ggL_share_X4_share : GoodIn wsL_share wsX4_share := goodIn_ca (goodIn_ca (goodIn_r _ [7, 8, 9, 10, 11, 12, 13, 14, 15, 6, 16, 17, 18, 19, 20, 21, 22, 23, 24, 25, 26, 27, 28, 29, 30, 31, 32, 33, 34, 35, 36, 37, 38, 39, 40, 41, 42, 43, 44, 45, 46, 47, 48, 49, 50, 51, 52, 53, 54, 55, 56, 57, 58, 59, 60, 61, 62, 63, 64, 65, 66, 67, 68, 69, 70] (by decide +kernel) (by decide +kernel)) (goodIn_sub (fun _ h => List.mem_cons_of_mem _ (List.mem_append_left _ (List.mem_append_right _ h))) (by decide +kernel))) (goodIn_sub (fun _ h => List.mem_cons_of_mem _ (List.mem_append_right _ h)) (by decide +kernel))
set_option maxRecDepth 20000 in
theorem gL_share_X4_share : GoodIn wsL_share (wsV RL 44 RX4 yX4_share wsX4_share) := goodIn_app (goodIn_of _ (by decide +kernel)) ggL_share_X4_share
theorem dL_share_0 : decode cL_share 0 = .ok (.aload_n 2, 1) := by decide +kernel
theorem dL_share_1 : decode cL_share 1 = .ok (.iconst 0, 1) := by decide +kernel
theorem dL_share_2 : decode cL_share 2 = .ok (.aload_n 0, 1) := by decide +kernel
theorem dL_share_3 : decode cL_share 3 = .ok (.iload_n 1, 1) := by decide +kernel
theorem dL_share_4 : decode cL_share 4 = .ok (.invokevirtual 44, 3) := by decide +kernel
theorem dL_share_7 : decode cL_share 7 = .ok (.i2l, 1) := by decide +kernel
theorem dL_share_8 : decode cL_share 8 = .ok (.lastore, 1) := by decide +kernel
theorem dL_share_9 : decode cL_share 9 = .ok (.goto 9, 3) := by decide +kernel
theorem dL_share_12 : decode cL_share 12 = .ok (.astore_n 3, 1) := by decide +kernel
theorem dL_share_13 : decode cL_share 13 = .ok (.iconst 1, 1) := by decide +kernel
theorem dL_share_14 : decode cL_share 14 = .ok (.ireturn, 1) := by decide +kernel
theorem dL_share_15 : decode cL_share 15 = .ok (.astore_n 3, 1) := by decide +kernel
theorem dL_share_16 : decode cL_share 16 = .ok (.iconst 2, 1) := by decide +kernel
theorem dL_share_17 : decode cL_share 17 = .ok (.ireturn, 1) := by decide +kernel
theorem dL_share_18 : decode cL_share 18 = .ok (.iconst 0, 1) := by decide +kernel
theorem dL_share_19 : decode cL_share 19 = .ok (.ireturn, 1) := by decide +kernel
set_option maxRecDepth 20000 in
theorem ggL_mean_X4_mean : GoodIn wsL_mean wsX4_mean := goodIn_ca (goodIn_r _ [6, 7, 8, 9, 10, 11, 12, 13, 14, 15, 16, 17, 18, 19, 20, 21, 22, 23, 24, 25, 26, 27, 28, 29, 30, 31, 32, 33, 34, 35, 36, 37, 38, 39, 40, 41, 42, 43, 44, 45, 46, 47, 48, 49] (by decide +kernel) (by decide +kernel)) (goodIn_sub (fun _ h => List.mem_cons_of_mem _ (List.mem_append_right _ h)) (by decide +kernel))
set_option maxRecDepth 20000 in
theorem gL_mean_X4_mean : GoodIn wsL_mean (wsV RL 49 RX4 yX4_mean wsX4_mean) := goodIn_app (goodIn_of _ (by decide +kernel)) ggL_mean_X4_mean
theorem dL_mean_0 : decode cL_mean 0 = .ok (.aload_n 1, 1) := by decide +kernel
theorem dL_mean_1 : decode cL_mean 1 = .ok (.iconst 0, 1) := by decide +kernel
theorem dL_mean_2 : decode cL_mean 2 = .ok (.aload_n 0, 1) := by decide +kernel
theorem dL_mean_3 : decode cL_mean 3 = .ok (.invokevirtual 49, 3) := by decide +kernel
theorem dL_mean_6 : decode cL_mean 6 = .ok (.i2l, 1) := by decide +kernel
theorem dL_mean_7 : decode cL_mean 7 = .ok (.lastore, 1) := by decide +kernel
theorem dL_mean_8 : decode cL_mean 8 = .ok (.goto 6, 3) := by decide +kernel
theorem dL_mean_11 : decode cL_mean 11 = .ok (.astore_n 2, 1) := by decide +kernel
theorem dL_mean_12 : decode cL_mean 12 = .ok (.iconst 1, 1) := by decide +kernel
theorem dL_mean_13 : decode cL_mean 13 = .ok (.ireturn, 1) := by decide +kernel
theorem dL_mean_14 : decode cL_mean 14 = .ok (.iconst 0, 1) := by decide +kernel
theorem dL_mean_15 : decode cL_mean 15 = .ok (.ireturn, 1) := by decide +kernel
set_option maxRecDepth 20000 in
theorem ggL_work_X4_work : GoodIn wsL_work wsX4_work := goodIn_ca (goodIn_r _ [6, 7, 8, 9, 10, 11, 12, 5, 13, 14, 15, 16, 17, 18, 19, 20, 21, 22, 23, 24, 25, 26, 27, 28, 29, 30, 31, 32, 33, 34, 35, 36] (by decide +kernel) (by decide +kernel)) (goodIn_sub (fun _ h => List.mem_cons_of_mem _ (List.mem_append_right _ h)) (by decide +kernel))
set_option maxRecDepth 20000 in
theorem gL_work_X4_work : GoodIn wsL_work (wsV RL 53 RX4 yX4_work wsX4_work) := goodIn_app (goodIn_of _ (by decide +kernel)) ggL_work_X4_work
theorem dL_work_0 : decode cL_work 0 = .ok (.aload_n 2, 1) := by decide +kernel
theorem dL_work_1 : decode cL_work 1 = .ok (.iconst 0, 1) := by decide +kernel
theorem dL_work_2 : decode cL_work 2 = .ok (.aload_n 0, 1) := by decide +kernel
theorem dL_work_3 : decode cL_work 3 = .ok (.iload_n 1, 1) := by decide +kernel
theorem dL_work_4 : decode cL_work 4 = .ok (.invokevirtual 53, 3) := by decide +kernel
theorem dL_work_7 : decode cL_work 7 = .ok (.i2l, 1) := by decide +kernel
theorem dL_work_8 : decode cL_work 8 = .ok (.lastore, 1) := by decide +kernel
theorem dL_work_9 : decode cL_work 9 = .ok (.goto 6, 3) := by decide +kernel
theorem dL_work_12 : decode cL_work 12 = .ok (.astore_n 3, 1) := by decide +kernel
theorem dL_work_13 : decode cL_work 13 = .ok (.iconst 1, 1) := by decide +kernel
theorem dL_work_14 : decode cL_work 14 = .ok (.ireturn, 1) := by decide +kernel
theorem dL_work_15 : decode cL_work 15 = .ok (.iconst 0, 1) := by decide +kernel
theorem dL_work_16 : decode cL_work 16 = .ok (.ireturn, 1) := by decide +kernel
set_option maxRecDepth 20000 in
theorem ggL_arrived_X4_arrived : GoodIn wsL_arrived wsX4_arrived := goodIn_ca (goodIn_r _ [6, 7, 8, 9, 5, 10, 11, 12, 13, 14, 15, 16, 17, 18, 19, 20, 21, 22, 23, 24, 25, 26, 27, 28, 29, 30, 31, 32, 33, 34, 35, 36, 37, 38, 39, 40, 41, 42, 43, 44, 45] (by decide +kernel) (by decide +kernel)) (goodIn_sub (fun _ h => List.mem_cons_of_mem _ (List.mem_append_right _ h)) (by decide +kernel))
set_option maxRecDepth 20000 in
theorem gL_arrived_X4_arrived : GoodIn wsL_arrived (wsV RL 56 RX4 yX4_arrived wsX4_arrived) := goodIn_app (goodIn_of _ (by decide +kernel)) ggL_arrived_X4_arrived
theorem dL_arrived_0 : decode cL_arrived 0 = .ok (.aload_n 2, 1) := by decide +kernel
theorem dL_arrived_1 : decode cL_arrived 1 = .ok (.iconst 0, 1) := by decide +kernel
theorem dL_arrived_2 : decode cL_arrived 2 = .ok (.aload_n 0, 1) := by decide +kernel
theorem dL_arrived_3 : decode cL_arrived 3 = .ok (.iload_n 1, 1) := by decide +kernel
theorem dL_arrived_4 : decode cL_arrived 4 = .ok (.invokevirtual 56, 3) := by decide +kernel
theorem dL_arrived_7 : decode cL_arrived 7 = .ok (.i2l, 1) := by decide +kernel
theorem dL_arrived_8 : decode cL_arrived 8 = .ok (.lastore, 1) := by decide +kernel
theorem dL_arrived_9 : decode cL_arrived 9 = .ok (.goto 6, 3) := by decide +kernel
theorem dL_arrived_12 : decode cL_arrived 12 = .ok (.astore_n 3, 1) := by decide +kernel
theorem dL_arrived_13 : decode cL_arrived 13 = .ok (.iconst 1, 1) := by decide +kernel
theorem dL_arrived_14 : decode cL_arrived 14 = .ok (.ireturn, 1) := by decide +kernel
theorem dL_arrived_15 : decode cL_arrived 15 = .ok (.iconst 0, 1) := by decide +kernel
theorem dL_arrived_16 : decode cL_arrived 16 = .ok (.ireturn, 1) := by decide +kernel
set_option maxRecDepth 20000 in
theorem ggL_unlucky_X4_unlucky : GoodIn wsL_unlucky wsX4_unlucky := goodIn_ca (goodIn_ca (goodIn_ca (goodIn_r _ [8, 9, 10, 11, 12, 13, 7, 14, 15, 16, 17, 18, 19, 20, 21, 22, 23, 24, 25, 26, 27, 28, 29, 30, 31, 32, 33, 34, 35, 36, 37, 38, 39, 40, 41, 42, 43, 44, 45, 46, 47, 48, 49, 50, 51, 52, 53, 54, 55, 56, 57, 58, 59, 60, 61, 62, 63, 64, 65, 66, 67, 68, 69, 70, 71, 72, 73, 74, 75, 76, 77, 78, 79, 80, 81, 82, 83, 84, 85, 86, 87, 88, 89, 90, 91, 92, 93, 94, 95, 96, 97, 98, 99, 100, 101, 102, 103, 104, 105, 106, 107, 108, 109, 110, 111, 112, 113, 114, 115, 116, 117, 118, 119, 120, 121, 122, 123, 124, 125, 126, 127, 128, 129, 130, 131, 132, 133, 134, 135, 136, 137, 138, 139, 140, 141, 142, 143, 144, 145, 146, 147, 148, 149, 150, 151, 152, 153, 154, 155, 156, 157, 158, 159, 160, 161, 162, 163, 164, 165, 166, 167, 168, 169, 170, 171, 172, 173, 174, 175, 176, 177, 178, 179, 180, 181, 182, 183, 184, 185, 186, 187, 188, 189, 190, 191, 192, 193, 194] (by decide +kernel) (by decide +kernel)) (goodIn_sub (fun _ h => List.mem_cons_of_mem _ (List.mem_append_left _ (List.mem_append_left _ (List.mem_append_right _ h)))) (by decide +kernel))) (goodIn_sub (fun _ h => List.mem_cons_of_mem _ (List.mem_append_left _ (List.mem_append_right _ h))) (by decide +kernel))) (goodIn_sub (fun _ h => List.mem_cons_of_mem _ (List.mem_append_right _ h)) (by decide +kernel))
set_option maxRecDepth 20000 in
theorem gL_unlucky_X4_unlucky : GoodIn wsL_unlucky (wsV RL 59 RX4 yX4_unlucky wsX4_unlucky) := goodIn_app (goodIn_of _ (by decide +kernel)) ggL_unlucky_X4_unlucky
theorem dL_unlucky_0 : decode cL_unlucky 0 = .ok (.aload 6, 2) := by decide +kernel
theorem dL_unlucky_2 : decode cL_unlucky 2 = .ok (.iconst 0, 1) := by decide +kernel
theorem dL_unlucky_3 : decode cL_unlucky 3 = .ok (.aload_n 0, 1) := by decide +kernel
theorem dL_unlucky_4 : decode cL_unlucky 4 = .ok (.iload_n 1, 1) := by decide +kernel
theorem dL_unlucky_5 : decode cL_unlucky 5 = .ok (.iload_n 2, 1) := by decide +kernel
theorem dL_unlucky_6 : decode cL_unlucky 6 = .ok (.iload_n 3, 1) := by decide +kernel
theorem dL_unlucky_7 : decode cL_unlucky 7 = .ok (.iload 4, 2) := by decide +kernel
theorem dL_unlucky_9 : decode cL_unlucky 9 = .ok (.iload 5, 2) := by decide +kernel
theorem dL_unlucky_11 : decode cL_unlucky 11 = .ok (.invokevirtual 59, 3) := by decide +kernel
theorem dL_unlucky_14 : decode cL_unlucky 14 = .ok (.i2l, 1) := by decide +kernel
theorem dL_unlucky_15 : decode cL_unlucky 15 = .ok (.lastore, 1) := by decide +kernel
theorem dL_unlucky_16 : decode cL_unlucky 16 = .ok (.goto 15, 3) := by decide +kernel
theorem dL_unlucky_19 : decode cL_unlucky 19 = .ok (.astore 7, 2) := by decide +kernel
theorem dL_unlucky_21 : decode cL_unlucky 21 = .ok (.iconst 1, 1) := by decide +kernel
theorem dL_unlucky_22 : decode cL_unlucky 22 = .ok (.ireturn, 1) := by decide +kernel
theorem dL_unlucky_23 : decode cL_unlucky 23 = .ok (.astore 7, 2) := by decide +kernel
theorem dL_unlucky_25 : decode cL_unlucky 25 = .ok (.iconst 2, 1) := by decide +kernel
theorem dL_unlucky_26 : decode cL_unlucky 26 = .ok (.ireturn, 1) := by decide +kernel
theorem dL_unlucky_27 : decode cL_unlucky 27 = .ok (.astore 7, 2) := by decide +kernel
theorem dL_unlucky_29 : decode cL_unlucky 29 = .ok (.iconst 3, 1) := by decide +kernel
theorem dL_unlucky_30 : decode cL_unlucky 30 = .ok (.ireturn, 1) := by decide +kernel
theorem dL_unlucky_31 : decode cL_unlucky 31 = .ok (.iconst 0, 1) := by decide +kernel
theorem dL_unlucky_32 : decode cL_unlucky 32 = .ok (.ireturn, 1) := by decide +kernel
set_option maxRecDepth 20000 in
theorem ggL_compare_X4_compare : GoodIn wsL_compare wsX4_compare := goodIn_ca (goodIn_ca (goodIn_ca (goodIn_r _ [8, 9, 10, 11, 12, 13, 7, 14, 15, 16, 17, 18, 19, 20, 21, 22, 23, 24, 25, 26, 27, 28, 29, 30, 31, 32, 33, 34, 35, 36, 37, 38, 39, 40, 41, 42, 43, 44, 45, 46, 47, 48, 49, 50, 51, 52, 53, 54, 55, 56, 57, 58, 59, 60, 61, 62, 63, 64, 65, 66, 67, 68, 69, 70, 71, 72, 73, 74, 75, 76, 77, 78, 79, 80, 81, 82, 83, 84, 85, 86, 87, 88, 89, 90, 91, 92, 93, 94, 95, 96, 97, 98, 99, 100, 101, 102, 103, 104, 105, 106, 107, 108, 109, 110, 111, 112, 113, 114, 115, 116, 117, 118, 119, 120, 121, 122, 123, 124, 125, 126, 127, 128, 129, 130, 131, 132, 133, 134, 135, 136, 137, 138, 139, 140, 141, 142, 143, 144, 145, 146, 147, 148, 149, 150, 151, 152, 153, 154, 155, 156, 157, 158, 159, 160, 161, 162, 163, 164, 165, 166, 167, 168, 169, 170, 171, 172, 173, 174, 175, 176, 177, 178, 179, 180, 181, 182, 183, 184, 185, 186, 187, 188, 189, 190, 191, 192, 193, 194, 195, 196, 197, 198, 199, 200, 201, 202, 203, 204] (by decide +kernel) (by decide +kernel)) (goodIn_sub (fun _ h => List.mem_cons_of_mem _ (List.mem_append_left _ (List.mem_append_left _ (List.mem_append_right _ h)))) (by decide +kernel))) (goodIn_sub (fun _ h => List.mem_cons_of_mem _ (List.mem_append_left _ (List.mem_append_right _ h))) (by decide +kernel))) (goodIn_sub (fun _ h => List.mem_cons_of_mem _ (List.mem_append_right _ h)) (by decide +kernel))
set_option maxRecDepth 20000 in
theorem gL_compare_X4_compare : GoodIn wsL_compare (wsV RL 63 RX4 yX4_compare wsX4_compare) := goodIn_app (goodIn_of _ (by decide +kernel)) ggL_compare_X4_compare
theorem dL_compare_0 : decode cL_compare 0 = .ok (.aload 7, 2) := by decide +kernel
theorem dL_compare_2 : decode cL_compare 2 = .ok (.iconst 0, 1) := by decide +kernel
theorem dL_compare_3 : decode cL_compare 3 = .ok (.aload_n 0, 1) := by decide +kernel
theorem dL_compare_4 : decode cL_compare 4 = .ok (.iload_n 1, 1) := by decide +kernel
theorem dL_compare_5 : decode cL_compare 5 = .ok (.iload_n 2, 1) := by decide +kernel
theorem dL_compare_6 : decode cL_compare 6 = .ok (.iload_n 3, 1) := by decide +kernel
theorem dL_compare_7 : decode cL_compare 7 = .ok (.iload 4, 2) := by decide +kernel
theorem dL_compare_9 : decode cL_compare 9 = .ok (.iload 5, 2) := by decide +kernel
theorem dL_compare_11 : decode cL_compare 11 = .ok (.iload 6, 2) := by decide +kernel
theorem dL_compare_13 : decode cL_compare 13 = .ok (.invokevirtual 63, 3) := by decide +kernel
theorem dL_compare_16 : decode cL_compare 16 = .ok (.i2l, 1) := by decide +kernel
theorem dL_compare_17 : decode cL_compare 17 = .ok (.lastore, 1) := by decide +kernel
theorem dL_compare_18 : decode cL_compare 18 = .ok (.goto 15, 3) := by decide +kernel
theorem dL_compare_21 : decode cL_compare 21 = .ok (.astore 8, 2) := by decide +kernel
theorem dL_compare_23 : decode cL_compare 23 = .ok (.iconst 1, 1) := by decide +kernel
theorem dL_compare_24 : decode cL_compare 24 = .ok (.ireturn, 1) := by decide +kernel
theorem dL_compare_25 : decode cL_compare 25 = .ok (.astore 8, 2) := by decide +kernel
theorem dL_compare_27 : decode cL_compare 27 = .ok (.iconst 2, 1) := by decide +kernel
theorem dL_compare_28 : decode cL_compare 28 = .ok (.ireturn, 1) := by decide +kernel
theorem dL_compare_29 : decode cL_compare 29 = .ok (.astore 8, 2) := by decide +kernel
theorem dL_compare_31 : decode cL_compare 31 = .ok (.iconst 3, 1) := by decide +kernel
theorem dL_compare_32 : decode cL_compare 32 = .ok (.ireturn, 1) := by decide +kernel
theorem dL_compare_33 : decode cL_compare 33 = .ok (.iconst 0, 1) := by decide +kernel
theorem dL_compare_34 : decode cL_compare 34 = .ok (.ireturn, 1) := by decide +kernel
set_option maxRecDepth 20000 in
theorem ggL_law_X4_init : GoodIn wsL_law wsX4_init := goodIn_r _ [9, 10, 11, 12, 13, 14, 15, 16, 17, 18, 19, 20, 21, 22, 23, 24, 25, 26, 27, 28, 29, 30, 31, 32, 33, 34, 35, 36, 37, 38, 39, 40, 41, 42, 43, 44, 45, 46, 47, 48, 49, 50, 51, 52, 53, 54, 55, 56, 57, 58, 59, 60, 61, 62, 63, 64, 65, 66, 67, 68, 69, 70, 71, 582, 583, 584, 585, 586, 587, 588, 589, 553, 554, 555, 556, 557, 590, 591, 592, 593, 594, 595, 596, 597, 598, 599, 600, 601, 602, 603, 604, 605, 606, 607] (by decide +kernel) (by decide +kernel)
set_option maxRecDepth 20000 in
theorem gL_law_X4_init : GoodIn wsL_law (wsX4_init) := ggL_law_X4_init
set_option maxRecDepth 20000 in
theorem ggL_law_X5_init : GoodIn wsL_law wsX5_init := goodIn_r _ [74, 75, 11, 12, 76, 77, 30, 78, 79, 80, 81, 82, 83, 84, 85, 86, 87, 88, 89, 90, 91, 92, 93, 558, 559, 560, 561, 562, 563, 564, 565, 566, 567, 568, 569, 570, 571, 572, 573, 574, 575, 576, 577, 578, 579, 580, 581] (by decide +kernel) (by decide +kernel)
set_option maxRecDepth 20000 in
theorem gL_law_X5_init : GoodIn wsL_law (wsX5_init) := ggL_law_X5_init
set_option maxRecDepth 20000 in
theorem ggL_law_L_station : GoodIn wsL_law wsL_station := goodIn_ca (goodIn_ca (goodIn_r _ [97, 98, 99, 100, 101, 102, 2, 103, 16, 104, 105, 106, 107, 108, 109, 110, 111, 112, 113, 114, 115, 116, 117, 118, 119, 120, 121, 122, 123, 15, 124, 31, 36, 32, 553, 554, 555, 556, 557, 582, 583, 584, 585, 586, 587, 588, 589] (by decide +kernel) (by decide +kernel)) (goodIn_sub (fun _ h => List.mem_append_left _ (List.mem_append_left _ (List.mem_append_left _ (List.mem_append_left _ (List.mem_append_right _ h))))) (by decide +kernel))) (goodIn_sub (fun _ h => List.mem_append_left _ (List.mem_append_left _ (List.mem_append_left _ (List.mem_append_right _ h)))) (by decide +kernel))
set_option maxRecDepth 20000 in
theorem gL_law_L_station : GoodIn wsL_law (va_wsS RL 71 yL_station wsL_station) := goodIn_app (goodIn_of _ (by decide +kernel)) ggL_law_L_station
set_option maxRecDepth 20000 in
theorem ggL_law_X5_station : GoodIn wsL_law wsX5_station := goodIn_r _ [128, 129, 78, 79, 130, 131, 5, 132, 133, 134, 135, 136, 137, 138, 139, 140, 558, 559, 560, 561, 562, 563, 564, 565, 566, 567, 568, 569, 570, 571, 572, 573, 574, 575, 576, 577, 578, 579, 580, 581] (by decide +kernel) (by decide +kernel)
set_option maxRecDepth 20000 in
theorem gL_law_X5_station : GoodIn wsL_law (wsV RL 76 RX5 yX5_station wsX5_station) := goodIn_app (goodIn_of _ (by decide +kernel)) ggL_law_X5_station
set_option maxRecDepth 20000 in
theorem ggL_law_X5_thrown : GoodIn wsL_law wsX5_thrown := goodIn_r _ [144, 140, 558, 559, 560, 561, 562, 563, 564, 565, 566, 567, 568, 569, 570, 571, 572, 573, 574, 575, 576, 577, 578, 579, 580, 581] (by decide +kernel) (by decide +kernel)
set_option maxRecDepth 20000 in
theorem gL_law_X5_thrown : GoodIn wsL_law (wsV RL 77 RX5 yX5_thrown wsX5_thrown) := goodIn_app (goodIn_of _ (by decide +kernel)) ggL_law_X5_thrown
set_option maxRecDepth 20000 in
theorem ggL_law_L_area : GoodIn wsL_law wsL_area := goodIn_ca (goodIn_ca (goodIn_r _ [147, 98, 99, 148, 149, 150, 2, 151, 16, 152, 105, 106, 107, 108, 109, 110, 153, 154, 155, 111, 112, 113, 114, 115, 116, 117, 118, 119, 120, 156, 157, 158, 15, 159, 33, 37, 34, 35, 38, 553, 554, 555, 556, 557, 582, 583, 584, 585, 586, 587, 588, 589] (by decide +kernel) (by decide +kernel)) (goodIn_sub (fun _ h => List.mem_append_left _ (List.mem_append_left _ (List.mem_append_left _ (List.mem_append_left _ (List.mem_append_right _ h))))) (by decide +kernel))) (goodIn_sub (fun _ h => List.mem_append_left _ (List.mem_append_left _ (List.mem_append_left _ (List.mem_append_right _ h)))) (by decide +kernel))
set_option maxRecDepth 20000 in
theorem gL_law_L_area : GoodIn wsL_law (va_wsS RL 80 yL_area wsL_area) := goodIn_app (goodIn_of _ (by decide +kernel)) ggL_law_L_area
set_option maxRecDepth 20000 in
theorem ggL_law_X5_area : GoodIn wsL_law wsX5_area := goodIn_r _ [163, 164, 80, 81, 82, 130, 131, 5, 132, 133, 134, 135, 136, 137, 138, 139, 140, 558, 559, 560, 561, 562, 563, 564, 565, 566, 567, 568, 569, 570, 571, 572, 573, 574, 575, 576, 577, 578, 579, 580, 581] (by decide +kernel) (by decide +kernel)
set_option maxRecDepth 20000 in
theorem gL_law_X5_area : GoodIn wsL_law (wsV RL 83 RX5 yX5_area wsX5_area) := goodIn_app (goodIn_of _ (by decide +kernel)) ggL_law_X5_area
set_option maxRecDepth 20000 in
theorem ggL_law_L_unit : GoodIn wsL_law wsL_unit := goodIn_ca (goodIn_ca (goodIn_ca (goodIn_r _ [167, 168, 169, 99, 170, 171, 172, 2, 173, 16, 104, 20, 174, 108, 109, 110, 175, 176, 177, 178, 179, 180, 181, 182, 19, 183, 184, 185, 186, 187, 44, 43, 188, 189, 190, 191, 192, 116, 117, 118, 119, 120, 193, 194, 195, 196, 553, 554, 555, 556, 557, 582, 583, 584, 585, 586, 587, 588, 589, 590, 591] (by decide +kernel) (by decide +kernel)) (goodIn_sub (fun _ h => List.mem_append_left _ (List.mem_append_left _ (List.mem_append_right _ h))) (by decide +kernel))) (goodIn_sub (fun _ h => List.mem_append_left _ (List.mem_append_right _ h)) (by decide +kernel))) (goodIn_sub (fun _ h => List.mem_append_left _ (List.mem_append_left _ (List.mem_append_left _ (List.mem_append_right _ h)))) (by decide +kernel))
set_option maxRecDepth 20000 in
theorem gL_law_L_unit : GoodIn wsL_law (va_wsS RL 84 yL_unit wsL_unit) := goodIn_app (goodIn_of _ (by decide +kernel)) ggL_law_L_unit
set_option maxRecDepth 20000 in
theorem ggL_law_X5_unit : GoodIn wsL_law wsX5_unit := goodIn_r _ [200, 129, 201, 83, 133, 134, 5, 135, 202, 203, 204, 205, 206, 207, 208, 209, 136, 137, 138, 139, 140, 558, 559, 560, 561, 562, 563, 564, 565, 566, 567, 568, 569, 570, 571, 572, 573, 574, 575, 576, 577, 578, 579, 580, 581] (by decide +kernel) (by decide +kernel)
set_option maxRecDepth 20000 in
theorem gL_law_X5_unit : GoodIn wsL_law (wsV RL 87 RX5 yX5_unit wsX5_unit) := goodIn_app (goodIn_of _ (by decide +kernel)) ggL_law_X5_unit
set_option maxRecDepth 20000 in
theorem ggL_law_L_change : GoodIn wsL_law wsL_change := goodIn_ca (goodIn_ca (goodIn_r _ [212, 168, 169, 213, 214, 215, 2, 216, 20, 174, 16, 104, 217, 153, 154, 155, 108, 109, 110, 175, 176, 177, 178, 179, 218, 185, 186, 19, 187, 44, 43, 188, 189, 190, 191, 192, 553, 554, 555, 556, 557, 590, 591, 582, 583, 584, 585, 586, 587, 588, 589] (by decide +kernel) (by decide +kernel)) (goodIn_sub (fun _ h => List.mem_append_left _ (List.mem_append_left _ (List.mem_append_right _ h))) (by decide +kernel))) (goodIn_sub (fun _ h => List.mem_append_left _ (List.mem_append_right _ h)) (by decide +kernel))
set_option maxRecDepth 20000 in
theorem gL_law_L_change : GoodIn wsL_law (va_wsS RL 88 yL_change wsL_change) := goodIn_app (goodIn_of _ (by decide +kernel)) ggL_law_L_change
set_option maxRecDepth 20000 in
theorem ggL_law_X5_change : GoodIn wsL_law wsX5_change := goodIn_r _ [222, 201, 129, 83, 133, 134, 5, 135, 206, 207, 208, 209, 136, 137, 138, 139, 140, 558, 559, 560, 561, 562, 563, 564, 565, 566, 567, 568, 569, 570, 571, 572, 573, 574, 575, 576, 577, 578, 579, 580, 581] (by decide +kernel) (by decide +kernel)
set_option maxRecDepth 20000 in
theorem gL_law_X5_change : GoodIn wsL_law (wsV RL 91 RX5 yX5_change wsX5_change) := goodIn_app (goodIn_of _ (by decide +kernel)) ggL_law_X5_change
set_option maxRecDepth 20000 in
theorem ggL_law_L_rules : GoodIn wsL_law wsL_rules := goodIn_ca (goodIn_r _ [225, 98, 226, 227, 228, 2, 229, 25, 26, 153, 154, 155, 111, 112, 113, 114, 115, 553, 554, 555, 556, 557] (by decide +kernel) (by decide +kernel)) (goodIn_sub (fun _ h => List.mem_append_left _ (List.mem_append_left _ (List.mem_append_left _ (List.mem_append_left _ (List.mem_append_right _ h))))) (by decide +kernel))
set_option maxRecDepth 20000 in
theorem gL_law_L_rules : GoodIn wsL_law (va_wsS RL 92 yL_rules wsL_rules) := goodIn_app (goodIn_of _ (by decide +kernel)) ggL_law_L_rules
set_option maxRecDepth 20000 in
theorem ggL_law_X5_rules : GoodIn wsL_law wsX5_rules := goodIn_r _ [233, 76, 77, 133, 134, 5, 135, 136, 137, 138, 139, 140, 558, 559, 560, 561, 562, 563, 564, 565, 566, 567, 568, 569, 570, 571, 572, 573, 574, 575, 576, 577, 578, 579, 580, 581] (by decide +kernel) (by decide +kernel)
set_option maxRecDepth 20000 in
theorem gL_law_X5_rules : GoodIn wsL_law (wsV RL 95 RX5 yX5_rules wsX5_rules) := goodIn_app (goodIn_of _ (by decide +kernel)) ggL_law_X5_rules
set_option maxRecDepth 20000 in
theorem ggL_law_L_run : GoodIn wsL_law wsL_run := goodIn_ca (goodIn_ca (goodIn_ca (goodIn_r _ [236, 168, 98, 169, 237, 238, 239, 2, 240, 16, 152, 108, 109, 110, 175, 176, 177, 178, 179, 153, 154, 155, 111, 112, 113, 114, 115, 188, 189, 190, 191, 192, 241, 242, 243, 244, 24, 245, 20, 25, 26, 246, 247, 248, 50, 249, 71, 250, 67, 69, 70, 68, 251, 252, 253, 254, 255, 256, 257, 258, 15, 259, 38, 260, 261, 262, 263, 37, 35, 264, 265, 266, 23, 267, 268, 62, 63, 60, 55, 269, 52, 270, 271, 272, 273, 57, 274, 59, 275, 276, 277, 278, 31, 33, 279, 280, 281, 32, 34, 282, 283, 284, 285, 286, 287, 288, 289, 290, 291, 292, 293, 294, 51, 295, 296, 297, 298, 299, 300, 301, 302, 303, 304, 305, 306, 307, 308, 309, 310, 311, 312, 313, 314, 315, 316, 317, 318, 53, 54, 319, 320, 321, 322, 323, 324, 325, 326, 327, 328, 329, 330, 331, 332, 333, 334, 335, 336, 337, 338, 339, 553, 554, 555, 556, 557, 582, 583, 584, 585, 586, 587, 588, 589, 592, 593, 594, 595, 596, 597, 598, 599, 600, 601, 602, 603, 604, 605, 606, 607, 590, 591] (by decide +kernel) (by decide +kernel)) (goodIn_sub (fun _ h => List.mem_append_left _ (List.mem_append_left _ (List.mem_append_right _ h))) (by decide +kernel))) (goodIn_sub (fun _ h => List.mem_append_left _ (List.mem_append_left _ (List.mem_append_left _ (List.mem_append_left _ (List.mem_append_right _ h))))) (by decide +kernel))) (goodIn_sub (fun _ h => List.mem_append_left _ (List.mem_append_right _ h)) (by decide +kernel))
set_option maxRecDepth 20000 in
theorem gL_law_L_run : GoodIn wsL_law (va_wsS RL 96 yL_run wsL_run) := goodIn_app (goodIn_of _ (by decide +kernel)) ggL_law_L_run
set_option maxRecDepth 20000 in
theorem ggL_law_X5_run : GoodIn wsL_law wsX5_run := goodIn_r _ [343, 164, 133, 134, 5, 135, 344, 345, 346, 136, 137, 138, 139, 140, 347, 348, 349, 350, 91, 92, 201, 83, 93, 351, 85, 352, 353, 354, 355, 356, 357, 358, 84, 86, 87, 88, 89, 90, 359, 360, 361, 362, 363, 364, 365, 366, 367, 82, 368, 369, 370, 371, 372, 373, 374, 375, 376, 377, 378, 379, 78, 80, 79, 81, 76, 380, 381, 382, 383, 384, 385, 386, 387, 388, 389, 390, 391, 392, 393, 394, 395, 396, 397, 398, 77, 558, 559, 560, 561, 562, 563, 564, 565, 566, 567, 568, 569, 570, 571, 572, 573, 574, 575, 576, 577, 578, 579, 580, 581] (by decide +kernel) (by decide +kernel)
set_option maxRecDepth 20000 in
theorem gL_law_X5_run : GoodIn wsL_law (wsV RL 99 RX5 yX5_run wsX5_run) := goodIn_app (goodIn_of _ (by decide +kernel)) ggL_law_X5_run
set_option maxRecDepth 20000 in
theorem ggL_law_L_call : GoodIn wsL_law wsL_call := goodIn_ca (goodIn_r _ [401, 168, 402, 403, 404, 2, 405, 178, 179, 24, 245, 406, 407, 408, 409, 410, 26, 108, 109, 110, 175, 176, 177, 411, 337, 338, 23, 339, 52, 54, 51, 301, 412, 413, 414, 415, 53, 332, 333, 334, 335, 336, 553, 554, 555, 556, 557, 592, 593, 594, 595, 596, 597, 598, 599, 600, 601, 602, 603, 604, 605, 606, 607] (by decide +kernel) (by decide +kernel)) (goodIn_sub (fun _ h => List.mem_append_left _ (List.mem_append_left _ (List.mem_append_right _ h))) (by decide +kernel))
set_option maxRecDepth 20000 in
theorem gL_law_L_call : GoodIn wsL_law (va_wsS RL 100 yL_call wsL_call) := goodIn_app (goodIn_of _ (by decide +kernel)) ggL_law_L_call
set_option maxRecDepth 20000 in
theorem ggL_law_X5_call : GoodIn wsL_law wsX5_call := goodIn_r _ [419, 357, 84, 85, 86, 88, 89, 133, 134, 5, 135, 136, 137, 138, 139, 140, 420, 421, 422, 423, 90, 77, 395, 396, 397, 398, 558, 559, 560, 561, 562, 563, 564, 565, 566, 567, 568, 569, 570, 571, 572, 573, 574, 575, 576, 577, 578, 579, 580, 581] (by decide +kernel) (by decide +kernel)
set_option maxRecDepth 20000 in
theorem gL_law_X5_call : GoodIn wsL_law (wsV RL 102 RX5 yX5_call wsX5_call) := goodIn_app (goodIn_of _ (by decide +kernel)) ggL_law_X5_call
set_option maxRecDepth 20000 in
theorem ggL_law_L_share : GoodIn wsL_law wsL_share := goodIn_ca (goodIn_ca (goodIn_r _ [426, 168, 427, 428, 429, 430, 2, 431, 432, 433, 24, 245, 406, 26, 153, 154, 155, 175, 176, 177, 178, 179, 328, 329, 330, 23, 331, 51, 300, 332, 333, 334, 335, 52, 336, 337, 338, 339, 54, 301, 434, 435, 436, 437, 438, 439, 440, 261, 262, 263, 553, 554, 555, 556, 557, 592, 593, 594, 595, 596, 597, 598, 599, 600, 601, 602, 603, 604, 605, 606, 607] (by decide +kernel) (by decide +kernel)) (goodIn_sub (fun _ h => List.mem_append_right _ h) (by decide +kernel))) (goodIn_sub (fun _ h => List.mem_append_left _ (List.mem_append_left _ (List.mem_append_right _ h))) (by decide +kernel))
set_option maxRecDepth 20000 in
theorem gL_law_L_share : GoodIn wsL_law (va_wsS RL 103 yL_share wsL_share) := goodIn_app (goodIn_of _ (by decide +kernel)) ggL_law_L_share
set_option maxRecDepth 20000 in
theorem ggL_law_X5_share : GoodIn wsL_law wsX5_share := goodIn_r _ [444, 357, 133, 134, 5, 135, 136, 137, 138, 139, 140, 391, 392, 393, 394, 395, 396, 397, 398, 88, 89, 84, 77, 445, 446, 447, 558, 559, 560, 561, 562, 563, 564, 565, 566, 567, 568, 569, 570, 571, 572, 573, 574, 575, 576, 577, 578, 579, 580, 581] (by decide +kernel) (by decide +kernel)
set_option maxRecDepth 20000 in
theorem gL_law_X5_share : GoodIn wsL_law (wsV RL 105 RX5 yX5_share wsX5_share) := goodIn_app (goodIn_of _ (by decide +kernel)) ggL_law_X5_share
set_option maxRecDepth 20000 in
theorem ggL_law_L_mean : GoodIn wsL_law wsL_mean := goodIn_ca (goodIn_r _ [450, 427, 451, 452, 453, 2, 454, 432, 433, 24, 455, 456, 457, 458, 23, 459, 51, 300, 52, 460, 461, 462, 463, 336, 337, 338, 339, 54, 301, 553, 554, 555, 556, 557, 592, 593, 594, 595, 596, 597, 598, 599, 600, 601, 602, 603, 604, 605, 606, 607] (by decide +kernel) (by decide +kernel)) (goodIn_sub (fun _ h => List.mem_append_right _ h) (by decide +kernel))
set_option maxRecDepth 20000 in
theorem gL_law_L_mean : GoodIn wsL_law (va_wsS RL 106 yL_mean wsL_mean) := goodIn_app (goodIn_of _ (by decide +kernel)) ggL_law_L_mean
set_option maxRecDepth 20000 in
theorem ggL_law_X5_mean : GoodIn wsL_law wsX5_mean := goodIn_r _ [467, 357, 88, 89, 84, 468, 136, 137, 138, 5, 139, 140, 558, 559, 560, 561, 562, 563, 564, 565, 566, 567, 568, 569, 570, 571, 572, 573, 574, 575, 576, 577, 578, 579, 580, 581] (by decide +kernel) (by decide +kernel)
set_option maxRecDepth 20000 in
theorem gL_law_X5_mean : GoodIn wsL_law (wsV RL 109 RX5 yX5_mean wsX5_mean) := goodIn_app (goodIn_of _ (by decide +kernel)) ggL_law_X5_mean
set_option maxRecDepth 20000 in
theorem ggL_law_X4_missed : GoodIn wsL_law wsX4_missed := goodIn_r _ [472, 24, 473, 553, 554, 555, 556, 557, 592, 593, 594, 595, 596, 597, 598, 599, 600, 601, 602] (by decide +kernel) (by decide +kernel)
set_option maxRecDepth 20000 in
theorem gL_law_X4_missed : GoodIn wsL_law (wsV RL 110 RX4 yX4_missed wsX4_missed) := goodIn_app (goodIn_of _ (by decide +kernel)) ggL_law_X4_missed
set_option maxRecDepth 20000 in
theorem ggL_law_X5_missed : GoodIn wsL_law wsX5_missed := goodIn_r _ [477, 140, 352, 558, 559, 560, 561, 562, 563, 564, 565, 566, 567, 568, 569, 570, 571, 572, 573, 574, 575, 576, 577, 578, 579, 580, 581] (by decide +kernel) (by decide +kernel)
set_option maxRecDepth 20000 in
theorem gL_law_X5_missed : GoodIn wsL_law (wsV RL 113 RX5 yX5_missed wsX5_missed) := goodIn_app (goodIn_of _ (by decide +kernel)) ggL_law_X5_missed
set_option maxRecDepth 20000 in
theorem ggL_law_L_work : GoodIn wsL_law wsL_work := goodIn_ca (goodIn_r _ [480, 168, 481, 482, 483, 2, 484, 20, 174, 24, 485, 108, 109, 110, 175, 176, 177, 178, 179, 553, 554, 555, 556, 557, 590, 591, 592, 593, 594, 595, 596, 597, 598, 599, 600, 601, 602] (by decide +kernel) (by decide +kernel)) (goodIn_sub (fun _ h => List.mem_append_left _ (List.mem_append_left _ (List.mem_append_right _ h))) (by decide +kernel))
set_option maxRecDepth 20000 in
theorem gL_law_L_work : GoodIn wsL_law (va_wsS RL 114 yL_work wsL_work) := goodIn_app (goodIn_of _ (by decide +kernel)) ggL_law_L_work
set_option maxRecDepth 20000 in
theorem ggL_law_X5_work : GoodIn wsL_law wsX5_work := goodIn_r _ [489, 201, 92, 133, 134, 5, 135, 136, 137, 138, 139, 140, 558, 559, 560, 561, 562, 563, 564, 565, 566, 567, 568, 569, 570, 571, 572, 573, 574, 575, 576, 577, 578, 579, 580, 581] (by decide +kernel) (by decide +kernel)
set_option maxRecDepth 20000 in
theorem gL_law_X5_work : GoodIn wsL_law (wsV RL 116 RX5 yX5_work wsX5_work) := goodIn_app (goodIn_of _ (by decide +kernel)) ggL_law_X5_work
set_option maxRecDepth 20000 in
theorem ggL_law_X4_worst : GoodIn wsL_law wsX4_worst := goodIn_r _ [493, 24, 26, 494, 495, 496, 23, 497, 61, 51, 300, 301, 332, 333, 334, 335, 52, 336, 337, 338, 339, 54, 553, 554, 555, 556, 557, 592, 593, 594, 595, 596, 597, 598, 599, 600, 601, 602, 603, 604, 605, 606, 607] (by decide +kernel) (by decide +kernel)
set_option maxRecDepth 20000 in
theorem gL_law_X4_worst : GoodIn wsL_law (wsV RL 117 RX4 yX4_worst wsX4_worst) := goodIn_app (goodIn_of _ (by decide +kernel)) ggL_law_X4_worst
set_option maxRecDepth 20000 in
theorem ggL_law_X5_worst : GoodIn wsL_law wsX5_worst := goodIn_r _ [501, 140, 357, 84, 395, 396, 397, 5, 398, 88, 89, 77, 558, 559, 560, 561, 562, 563, 564, 565, 566, 567, 568, 569, 570, 571, 572, 573, 574, 575, 576, 577, 578, 579, 580, 581] (by decide +kernel) (by decide +kernel)
set_option maxRecDepth 20000 in
theorem gL_law_X5_worst : GoodIn wsL_law (wsV RL 120 RX5 yX5_worst wsX5_worst) := goodIn_app (goodIn_of _ (by decide +kernel)) ggL_law_X5_worst
set_option maxRecDepth 20000 in
theorem ggL_law_L_arrived : GoodIn wsL_law wsL_arrived := goodIn_ca (goodIn_r _ [504, 98, 505, 506, 507, 2, 508, 24, 153, 154, 155, 111, 112, 113, 114, 115, 509, 510, 511, 23, 512, 51, 300, 52, 54, 553, 554, 555, 556, 557, 592, 593, 594, 595, 596, 597, 598, 599, 600, 601, 602, 603, 604, 605, 606, 607] (by decide +kernel) (by decide +kernel)) (goodIn_sub (fun _ h => List.mem_append_left _ (List.mem_append_left _ (List.mem_append_left _ (List.mem_append_left _ (List.mem_append_right _ h))))) (by decide +kernel))
set_option maxRecDepth 20000 in
theorem gL_law_L_arrived : GoodIn wsL_law (va_wsS RL 121 yL_arrived wsL_arrived) := goodIn_app (goodIn_of _ (by decide +kernel)) ggL_law_L_arrived
set_option maxRecDepth 20000 in
theorem ggL_law_X5_arrived : GoodIn wsL_law wsX5_arrived := goodIn_r _ [516, 357, 88, 89, 133, 134, 5, 135, 136, 137, 138, 139, 140, 558, 559, 560, 561, 562, 563, 564, 565, 566, 567, 568, 569, 570, 571, 572, 573, 574, 575, 576, 577, 578, 579, 580, 581] (by decide +kernel) (by decide +kernel)
set_option maxRecDepth 20000 in
theorem gL_law_X5_arrived : GoodIn wsL_law (wsV RL 123 RX5 yX5_arrived wsX5_arrived) := goodIn_app (goodIn_of _ (by decide +kernel)) ggL_law_X5_arrived
set_option maxRecDepth 20000 in
theorem ggL_law_L_unlucky : GoodIn wsL_law wsL_unlucky := goodIn_ca (goodIn_ca (goodIn_ca (goodIn_r _ [519, 168, 98, 169, 520, 521, 522, 2, 523, 16, 152, 24, 108, 109, 110, 175, 176, 177, 178, 179, 153, 154, 155, 111, 112, 113, 114, 115, 188, 189, 190, 191, 192, 241, 242, 243, 244, 245, 20, 25, 26, 246, 247, 248, 50, 249, 71, 250, 67, 69, 70, 68, 251, 252, 253, 254, 255, 256, 257, 258, 15, 259, 38, 260, 261, 262, 263, 37, 35, 264, 265, 266, 23, 267, 268, 62, 63, 60, 55, 269, 52, 270, 271, 272, 273, 57, 274, 59, 275, 276, 277, 278, 31, 33, 279, 280, 281, 32, 34, 282, 283, 284, 285, 286, 287, 288, 289, 290, 291, 292, 293, 294, 51, 295, 296, 297, 298, 299, 300, 301, 302, 303, 304, 305, 306, 307, 308, 309, 310, 311, 312, 313, 314, 315, 316, 317, 318, 53, 54, 319, 320, 321, 322, 323, 324, 325, 326, 327, 328, 329, 330, 331, 332, 333, 334, 335, 336, 337, 338, 339, 524, 525, 526, 527, 553, 554, 555, 556, 557, 582, 583, 584, 585, 586, 587, 588, 589, 592, 593, 594, 595, 596, 597, 598, 599, 600, 601, 602, 603, 604, 605, 606, 607, 590, 591] (by decide +kernel) (by decide +kernel)) (goodIn_sub (fun _ h => List.mem_append_left _ (List.mem_append_left _ (List.mem_append_right _ h))) (by decide +kernel))) (goodIn_sub (fun _ h => List.mem_append_left _ (List.mem_append_left _ (List.mem_append_left _ (List.mem_append_left _ (List.mem_append_right _ h))))) (by decide +kernel))) (goodIn_sub (fun _ h => List.mem_append_left _ (List.mem_append_right _ h)) (by decide +kernel))
set_option maxRecDepth 20000 in
theorem gL_law_L_unlucky : GoodIn wsL_law (va_wsS RL 124 yL_unlucky wsL_unlucky) := goodIn_app (goodIn_of _ (by decide +kernel)) ggL_law_L_unlucky
set_option maxRecDepth 20000 in
theorem ggL_law_X5_unlucky : GoodIn wsL_law wsX5_unlucky := goodIn_r _ [531, 164, 133, 134, 5, 135, 344, 345, 346, 136, 137, 138, 139, 140, 347, 348, 349, 350, 91, 92, 201, 83, 93, 351, 85, 352, 353, 354, 355, 356, 357, 358, 84, 86, 87, 88, 89, 90, 359, 360, 361, 362, 363, 364, 365, 366, 367, 82, 368, 369, 370, 371, 372, 373, 374, 375, 376, 377, 378, 379, 78, 80, 79, 81, 76, 380, 381, 382, 383, 384, 385, 386, 387, 388, 389, 390, 391, 392, 393, 394, 395, 396, 397, 398, 77, 532, 533, 534, 535, 558, 559, 560, 561, 562, 563, 564, 565, 566, 567, 568, 569, 570, 571, 572, 573, 574, 575, 576, 577, 578, 579, 580, 581] (by decide +kernel) (by decide +kernel)
set_option maxRecDepth 20000 in
theorem gL_law_X5_unlucky : GoodIn wsL_law (wsV RL 127 RX5 yX5_unlucky wsX5_unlucky) := goodIn_app (goodIn_of _ (by decide +kernel)) ggL_law_X5_unlucky
set_option maxRecDepth 20000 in
theorem ggL_law_L_compare : GoodIn wsL_law wsL_compare := goodIn_ca (goodIn_ca (goodIn_ca (goodIn_r _ [538, 168, 98, 169, 539, 540, 541, 2, 542, 16, 152, 24, 108, 109, 110, 153, 154, 155, 175, 176, 177, 178, 179, 111, 112, 113, 114, 115, 188, 189, 190, 191, 192, 241, 242, 243, 244, 245, 20, 25, 26, 246, 247, 248, 50, 249, 71, 250, 67, 69, 70, 68, 251, 252, 253, 254, 255, 256, 257, 258, 15, 259, 38, 260, 261, 262, 263, 37, 35, 264, 265, 266, 23, 267, 268, 62, 63, 60, 55, 269, 52, 270, 271, 272, 273, 57, 274, 59, 275, 276, 277, 278, 31, 33, 279, 280, 281, 32, 34, 282, 283, 284, 285, 286, 287, 288, 289, 290, 291, 292, 293, 294, 51, 295, 296, 297, 298, 299, 300, 301, 302, 303, 304, 305, 306, 307, 308, 309, 310, 311, 312, 313, 314, 315, 316, 317, 318, 53, 54, 319, 320, 321, 322, 323, 324, 325, 326, 327, 328, 329, 330, 331, 332, 333, 334, 335, 336, 337, 338, 339, 524, 525, 526, 527, 543, 544, 545, 434, 435, 436, 437, 438, 439, 440, 553, 554, 555, 556, 557, 582, 583, 584, 585, 586, 587, 588, 589, 592, 593, 594, 595, 596, 597, 598, 599, 600, 601, 602, 603, 604, 605, 606, 607, 590, 591] (by decide +kernel) (by decide +kernel)) (goodIn_sub (fun _ h => List.mem_append_left _ (List.mem_append_left _ (List.mem_append_right _ h))) (by decide +kernel))) (goodIn_sub (fun _ h => List.mem_append_left _ (List.mem_append_left _ (List.mem_append_left _ (List.mem_append_left _ (List.mem_append_right _ h))))) (by decide +kernel))) (goodIn_sub (fun _ h => List.mem_append_left _ (List.mem_append_right _ h)) (by decide +kernel))
set_option maxRecDepth 20000 in
theorem gL_law_L_compare : GoodIn wsL_law (va_wsS RL 128 yL_compare wsL_compare) := goodIn_app (goodIn_of _ (by decide +kernel)) ggL_law_L_compare
set_option maxRecDepth 20000 in
theorem ggL_law_X5_compare : GoodIn wsL_law wsX5_compare := goodIn_r _ [549, 164, 133, 134, 5, 135, 344, 345, 346, 136, 137, 138, 139, 140, 347, 348, 349, 350, 91, 92, 201, 83, 93, 351, 85, 352, 353, 354, 355, 356, 357, 358, 84, 86, 87, 88, 89, 90, 359, 360, 361, 362, 363, 364, 365, 366, 367, 82, 368, 369, 370, 371, 372, 373, 374, 375, 376, 377, 378, 379, 78, 80, 79, 81, 76, 380, 381, 382, 383, 384, 385, 386, 387, 388, 389, 390, 391, 392, 393, 394, 395, 396, 397, 398, 77, 532, 533, 534, 535, 550, 551, 552, 445, 446, 447, 558, 559, 560, 561, 562, 563, 564, 565, 566, 567, 568, 569, 570, 571, 572, 573, 574, 575, 576, 577, 578, 579, 580, 581] (by decide +kernel) (by decide +kernel)
set_option maxRecDepth 20000 in
theorem gL_law_X5_compare : GoodIn wsL_law (wsV RL 131 RX5 yX5_compare wsX5_compare) := goodIn_app (goodIn_of _ (by decide +kernel)) ggL_law_X5_compare
theorem dL_law_0 : decode cL_law 0 = .ok (.new 8, 3) := by decide +kernel
theorem dL_law_3 : decode cL_law 3 = .ok (.dup, 1) := by decide +kernel
theorem dL_law_4 : decode cL_law 4 = .ok (.invokespecial 67, 3) := by decide +kernel
theorem dL_law_7 : decode cL_law 7 = .ok (.astore_n 1, 1) := by decide +kernel
theorem dL_law_8 : decode cL_law 8 = .ok (.new 68, 3) := by decide +kernel
theorem dL_law_11 : decode cL_law 11 = .ok (.dup, 1) := by decide +kernel
theorem dL_law_12 : decode cL_law 12 = .ok (.invokespecial 70, 3) := by decide +kernel
theorem dL_law_15 : decode cL_law 15 = .ok (.astore_n 2, 1) := by decide +kernel
theorem dL_law_16 : decode cL_law 16 = .ok (.iconst 1, 1) := by decide +kernel
theorem dL_law_17 : decode cL_law 17 = .ok (.newarray .long, 2) := by decide +kernel
theorem dL_law_19 : decode cL_law 19 = .ok (.astore_n 3, 1) := by decide +kernel
theorem dL_law_20 : decode cL_law 20 = .ok (.iconst 0, 1) := by decide +kernel
theorem dL_law_21 : decode cL_law 21 = .ok (.istore 4, 2) := by decide +kernel
theorem dL_law_23 : decode cL_law 23 = .ok (.iload 4, 2) := by decide +kernel
theorem dL_law_25 : decode cL_law 25 = .ok (.aload_n 0, 1) := by decide +kernel
theorem dL_law_26 : decode cL_law 26 = .ok (.arraylength, 1) := by decide +kernel
theorem dL_law_27 : decode cL_law 27 = .ok (.bipush 7, 2) := by decide +kernel
theorem dL_law_29 : decode cL_law 29 = .ok (.isub, 1) := by decide +kernel
theorem dL_law_30 : decode cL_law 30 = .ok (.if_icmp .gt 1024, 3) := by decide +kernel
theorem dL_law_33 : decode cL_law 33 = .ok (.aload_n 0, 1) := by decide +kernel
theorem dL_law_34 : decode cL_law 34 = .ok (.iload 4, 2) := by decide +kernel
theorem dL_law_36 : decode cL_law 36 = .ok (.iaload, 1) := by decide +kernel
theorem dL_law_37 : decode cL_law 37 = .ok (.bipush 15, 2) := by decide +kernel
theorem dL_law_39 : decode cL_law 39 = .ok (.iand, 1) := by decide +kernel
theorem dL_law_40 : decode cL_law 40 = .ok (.tableswitch 1008 0 14 #[76, 144, 224, 280, 340, 388, 480, 548, 604, 648, 661, 717, 730, 786, 890], 76) := by decide +kernel
theorem dL_law_116 : decode cL_law 116 = .ok (.aload_n 1, 1) := by decide +kernel
theorem dL_law_117 : decode cL_law 117 = .ok (.aload_n 0, 1) := by decide +kernel
theorem dL_law_118 : decode cL_law 118 = .ok (.iload 4, 2) := by decide +kernel
theorem dL_law_120 : decode cL_law 120 = .ok (.iconst 1, 1) := by decide +kernel
theorem dL_law_121 : decode cL_law 121 = .ok (.iadd, 1) := by decide +kernel
theorem dL_law_122 : decode cL_law 122 = .ok (.iaload, 1) := by decide +kernel
theorem dL_law_123 : decode cL_law 123 = .ok (.aload_n 0, 1) := by decide +kernel
theorem dL_law_124 : decode cL_law 124 = .ok (.iload 4, 2) := by decide +kernel
theorem dL_law_126 : decode cL_law 126 = .ok (.iconst 2, 1) := by decide +kernel
theorem dL_law_127 : decode cL_law 127 = .ok (.iadd, 1) := by decide +kernel
theorem dL_law_128 : decode cL_law 128 = .ok (.iaload, 1) := by decide +kernel
theorem dL_law_129 : decode cL_law 129 = .ok (.aload_n 3, 1) := by decide +kernel
theorem dL_law_130 : decode cL_law 130 = .ok (.invokestatic 71, 3) := by decide +kernel
theorem dL_law_133 : decode cL_law 133 = .ok (.istore 5, 2) := by decide +kernel
theorem dL_law_135 : decode cL_law 135 = .ok (.aload_n 2, 1) := by decide +kernel
theorem dL_law_136 : decode cL_law 136 = .ok (.aload_n 0, 1) := by decide +kernel
theorem dL_law_137 : decode cL_law 137 = .ok (.iload 4, 2) := by decide +kernel
theorem dL_law_139 : decode cL_law 139 = .ok (.iconst 1, 1) := by decide +kernel
theorem dL_law_140 : decode cL_law 140 = .ok (.iadd, 1) := by decide +kernel
theorem dL_law_141 : decode cL_law 141 = .ok (.iaload, 1) := by decide +kernel
theorem dL_law_142 : decode cL_law 142 = .ok (.aload_n 0, 1) := by decide +kernel
theorem dL_law_143 : decode cL_law 143 = .ok (.iload 4, 2) := by decide +kernel
theorem dL_law_145 : decode cL_law 145 = .ok (.iconst 2, 1) := by decide +kernel
theorem dL_law_146 : decode cL_law 146 = .ok (.iadd, 1) := by decide +kernel
theorem dL_law_147 : decode cL_law 147 = .ok (.iaload, 1) := by decide +kernel
theorem dL_law_148 : decode cL_law 148 = .ok (.invokevirtual 76, 3) := by decide +kernel
theorem dL_law_151 : decode cL_law 151 = .ok (.istore 6, 2) := by decide +kernel
theorem dL_law_153 : decode cL_law 153 = .ok (.aload_n 2, 1) := by decide +kernel
theorem dL_law_154 : decode cL_law 154 = .ok (.invokevirtual 77, 3) := by decide +kernel
theorem dL_law_157 : decode cL_law 157 = .ok (.iload 5, 2) := by decide +kernel
theorem dL_law_159 : decode cL_law 159 = .ok (.if_icmp .eq 5, 3) := by decide +kernel
theorem dL_law_162 : decode cL_law 162 = .ok (.iconst 0, 1) := by decide +kernel
theorem dL_law_163 : decode cL_law 163 = .ok (.ireturn, 1) := by decide +kernel
theorem dL_law_164 : decode cL_law 164 = .ok (.iload 5, 2) := by decide +kernel
theorem dL_law_166 : decode cL_law 166 = .ok (.ifCond .ne 15, 3) := by decide +kernel
theorem dL_law_169 : decode cL_law 169 = .ok (.aload_n 3, 1) := by decide +kernel
theorem dL_law_170 : decode cL_law 170 = .ok (.iconst 0, 1) := by decide +kernel
theorem dL_law_171 : decode cL_law 171 = .ok (.laload, 1) := by decide +kernel
theorem dL_law_172 : decode cL_law 172 = .ok (.iload 6, 2) := by decide +kernel
theorem dL_law_174 : decode cL_law 174 = .ok (.i2l, 1) := by decide +kernel
theorem dL_law_175 : decode cL_law 175 = .ok (.lcmp, 1) := by decide +kernel
theorem dL_law_176 : decode cL_law 176 = .ok (.ifCond .eq 5, 3) := by decide +kernel
theorem dL_law_179 : decode cL_law 179 = .ok (.iconst 0, 1) := by decide +kernel
theorem dL_law_180 : decode cL_law 180 = .ok (.ireturn, 1) := by decide +kernel
theorem dL_law_181 : decode cL_law 181 = .ok (.goto 867, 3) := by decide +kernel
theorem dL_law_184 : decode cL_law 184 = .ok (.aload_n 1, 1) := by decide +kernel
theorem dL_law_185 : decode cL_law 185 = .ok (.aload_n 0, 1) := by decide +kernel
theorem dL_law_186 : decode cL_law 186 = .ok (.iload 4, 2) := by decide +kernel
theorem dL_law_188 : decode cL_law 188 = .ok (.iconst 1, 1) := by decide +kernel
theorem dL_law_189 : decode cL_law 189 = .ok (.iadd, 1) := by decide +kernel
theorem dL_law_190 : decode cL_law 190 = .ok (.iaload, 1) := by decide +kernel
theorem dL_law_191 : decode cL_law 191 = .ok (.aload_n 0, 1) := by decide +kernel
theorem dL_law_192 : decode cL_law 192 = .ok (.iload 4, 2) := by decide +kernel
theorem dL_law_194 : decode cL_law 194 = .ok (.iconst 2, 1) := by decide +kernel
theorem dL_law_195 : decode cL_law 195 = .ok (.iadd, 1) := by decide +kernel
theorem dL_law_196 : decode cL_law 196 = .ok (.iaload, 1) := by decide +kernel
theorem dL_law_197 : decode cL_law 197 = .ok (.aload_n 0, 1) := by decide +kernel
theorem dL_law_198 : decode cL_law 198 = .ok (.iload 4, 2) := by decide +kernel
theorem dL_law_200 : decode cL_law 200 = .ok (.iconst 3, 1) := by decide +kernel
theorem dL_law_201 : decode cL_law 201 = .ok (.iadd, 1) := by decide +kernel
theorem dL_law_202 : decode cL_law 202 = .ok (.iaload, 1) := by decide +kernel
theorem dL_law_203 : decode cL_law 203 = .ok (.aload_n 3, 1) := by decide +kernel
theorem dL_law_204 : decode cL_law 204 = .ok (.invokestatic 80, 3) := by decide +kernel
theorem dL_law_207 : decode cL_law 207 = .ok (.istore 5, 2) := by decide +kernel
theorem dL_law_209 : decode cL_law 209 = .ok (.aload_n 2, 1) := by decide +kernel
theorem dL_law_210 : decode cL_law 210 = .ok (.aload_n 0, 1) := by decide +kernel
theorem dL_law_211 : decode cL_law 211 = .ok (.iload 4, 2) := by decide +kernel
theorem dL_law_213 : decode cL_law 213 = .ok (.iconst 1, 1) := by decide +kernel
theorem dL_law_214 : decode cL_law 214 = .ok (.iadd, 1) := by decide +kernel
theorem dL_law_215 : decode cL_law 215 = .ok (.iaload, 1) := by decide +kernel
theorem dL_law_216 : decode cL_law 216 = .ok (.aload_n 0, 1) := by decide +kernel
theorem dL_law_217 : decode cL_law 217 = .ok (.iload 4, 2) := by decide +kernel
theorem dL_law_219 : decode cL_law 219 = .ok (.iconst 2, 1) := by decide +kernel
theorem dL_law_220 : decode cL_law 220 = .ok (.iadd, 1) := by decide +kernel
theorem dL_law_221 : decode cL_law 221 = .ok (.iaload, 1) := by decide +kernel
theorem dL_law_222 : decode cL_law 222 = .ok (.aload_n 0, 1) := by decide +kernel
theorem dL_law_223 : decode cL_law 223 = .ok (.iload 4, 2) := by decide +kernel
theorem dL_law_225 : decode cL_law 225 = .ok (.iconst 3, 1) := by decide +kernel
theorem dL_law_226 : decode cL_law 226 = .ok (.iadd, 1) := by decide +kernel
theorem dL_law_227 : decode cL_law 227 = .ok (.iaload, 1) := by decide +kernel
theorem dL_law_228 : decode cL_law 228 = .ok (.invokevirtual 83, 3) := by decide +kernel
theorem dL_law_231 : decode cL_law 231 = .ok (.istore 6, 2) := by decide +kernel
theorem dL_law_233 : decode cL_law 233 = .ok (.aload_n 2, 1) := by decide +kernel
theorem dL_law_234 : decode cL_law 234 = .ok (.invokevirtual 77, 3) := by decide +kernel
theorem dL_law_237 : decode cL_law 237 = .ok (.iload 5, 2) := by decide +kernel
theorem dL_law_239 : decode cL_law 239 = .ok (.if_icmp .eq 5, 3) := by decide +kernel
theorem dL_law_242 : decode cL_law 242 = .ok (.iconst 0, 1) := by decide +kernel
theorem dL_law_243 : decode cL_law 243 = .ok (.ireturn, 1) := by decide +kernel
theorem dL_law_244 : decode cL_law 244 = .ok (.iload 5, 2) := by decide +kernel
theorem dL_law_246 : decode cL_law 246 = .ok (.ifCond .ne 15, 3) := by decide +kernel
theorem dL_law_249 : decode cL_law 249 = .ok (.aload_n 3, 1) := by decide +kernel
theorem dL_law_250 : decode cL_law 250 = .ok (.iconst 0, 1) := by decide +kernel
theorem dL_law_251 : decode cL_law 251 = .ok (.laload, 1) := by decide +kernel
theorem dL_law_252 : decode cL_law 252 = .ok (.iload 6, 2) := by decide +kernel
theorem dL_law_254 : decode cL_law 254 = .ok (.i2l, 1) := by decide +kernel
theorem dL_law_255 : decode cL_law 255 = .ok (.lcmp, 1) := by decide +kernel
theorem dL_law_256 : decode cL_law 256 = .ok (.ifCond .eq 5, 3) := by decide +kernel
theorem dL_law_259 : decode cL_law 259 = .ok (.iconst 0, 1) := by decide +kernel
theorem dL_law_260 : decode cL_law 260 = .ok (.ireturn, 1) := by decide +kernel
theorem dL_law_261 : decode cL_law 261 = .ok (.goto 787, 3) := by decide +kernel
theorem dL_law_264 : decode cL_law 264 = .ok (.aload_n 1, 1) := by decide +kernel
theorem dL_law_265 : decode cL_law 265 = .ok (.aload_n 0, 1) := by decide +kernel
theorem dL_law_266 : decode cL_law 266 = .ok (.iload 4, 2) := by decide +kernel
theorem dL_law_268 : decode cL_law 268 = .ok (.iconst 1, 1) := by decide +kernel
theorem dL_law_269 : decode cL_law 269 = .ok (.iadd, 1) := by decide +kernel
theorem dL_law_270 : decode cL_law 270 = .ok (.iaload, 1) := by decide +kernel
theorem dL_law_271 : decode cL_law 271 = .ok (.aload_n 3, 1) := by decide +kernel
theorem dL_law_272 : decode cL_law 272 = .ok (.invokestatic 84, 3) := by decide +kernel
theorem dL_law_275 : decode cL_law 275 = .ok (.istore 5, 2) := by decide +kernel
theorem dL_law_277 : decode cL_law 277 = .ok (.aload_n 2, 1) := by decide +kernel
theorem dL_law_278 : decode cL_law 278 = .ok (.aload_n 0, 1) := by decide +kernel
theorem dL_law_279 : decode cL_law 279 = .ok (.iload 4, 2) := by decide +kernel
theorem dL_law_281 : decode cL_law 281 = .ok (.iconst 1, 1) := by decide +kernel
theorem dL_law_282 : decode cL_law 282 = .ok (.iadd, 1) := by decide +kernel
theorem dL_law_283 : decode cL_law 283 = .ok (.iaload, 1) := by decide +kernel
theorem dL_law_284 : decode cL_law 284 = .ok (.invokevirtual 87, 3) := by decide +kernel
theorem dL_law_287 : decode cL_law 287 = .ok (.istore 6, 2) := by decide +kernel
theorem dL_law_289 : decode cL_law 289 = .ok (.aload_n 2, 1) := by decide +kernel
theorem dL_law_290 : decode cL_law 290 = .ok (.invokevirtual 77, 3) := by decide +kernel
theorem dL_law_293 : decode cL_law 293 = .ok (.iload 5, 2) := by decide +kernel
theorem dL_law_295 : decode cL_law 295 = .ok (.if_icmp .eq 5, 3) := by decide +kernel
theorem dL_law_298 : decode cL_law 298 = .ok (.iconst 0, 1) := by decide +kernel
theorem dL_law_299 : decode cL_law 299 = .ok (.ireturn, 1) := by decide +kernel
theorem dL_law_300 : decode cL_law 300 = .ok (.iload 5, 2) := by decide +kernel
theorem dL_law_302 : decode cL_law 302 = .ok (.ifCond .ne 15, 3) := by decide +kernel
theorem dL_law_305 : decode cL_law 305 = .ok (.aload_n 3, 1) := by decide +kernel
theorem dL_law_306 : decode cL_law 306 = .ok (.iconst 0, 1) := by decide +kernel
theorem dL_law_307 : decode cL_law 307 = .ok (.laload, 1) := by decide +kernel
theorem dL_law_308 : decode cL_law 308 = .ok (.iload 6, 2) := by decide +kernel
theorem dL_law_310 : decode cL_law 310 = .ok (.i2l, 1) := by decide +kernel
theorem dL_law_311 : decode cL_law 311 = .ok (.lcmp, 1) := by decide +kernel
theorem dL_law_312 : decode cL_law 312 = .ok (.ifCond .eq 5, 3) := by decide +kernel
theorem dL_law_315 : decode cL_law 315 = .ok (.iconst 0, 1) := by decide +kernel
theorem dL_law_316 : decode cL_law 316 = .ok (.ireturn, 1) := by decide +kernel
theorem dL_law_317 : decode cL_law 317 = .ok (.goto 731, 3) := by decide +kernel
theorem dL_law_320 : decode cL_law 320 = .ok (.aload_n 1, 1) := by decide +kernel
theorem dL_law_321 : decode cL_law 321 = .ok (.aload_n 0, 1) := by decide +kernel
theorem dL_law_322 : decode cL_law 322 = .ok (.iload 4, 2) := by decide +kernel
theorem dL_law_324 : decode cL_law 324 = .ok (.iconst 1, 1) := by decide +kernel
theorem dL_law_325 : decode cL_law 325 = .ok (.iadd, 1) := by decide +kernel
theorem dL_law_326 : decode cL_law 326 = .ok (.iaload, 1) := by decide +kernel
theorem dL_law_327 : decode cL_law 327 = .ok (.aload_n 0, 1) := by decide +kernel
theorem dL_law_328 : decode cL_law 328 = .ok (.iload 4, 2) := by decide +kernel
theorem dL_law_330 : decode cL_law 330 = .ok (.iconst 2, 1) := by decide +kernel
theorem dL_law_331 : decode cL_law 331 = .ok (.iadd, 1) := by decide +kernel
theorem dL_law_332 : decode cL_law 332 = .ok (.iaload, 1) := by decide +kernel
theorem dL_law_333 : decode cL_law 333 = .ok (.aload_n 0, 1) := by decide +kernel
theorem dL_law_334 : decode cL_law 334 = .ok (.iload 4, 2) := by decide +kernel
theorem dL_law_336 : decode cL_law 336 = .ok (.iconst 3, 1) := by decide +kernel
theorem dL_law_337 : decode cL_law 337 = .ok (.iadd, 1) := by decide +kernel
theorem dL_law_338 : decode cL_law 338 = .ok (.iaload, 1) := by decide +kernel
theorem dL_law_339 : decode cL_law 339 = .ok (.invokestatic 88, 3) := by decide +kernel
theorem dL_law_342 : decode cL_law 342 = .ok (.istore 5, 2) := by decide +kernel
theorem dL_law_344 : decode cL_law 344 = .ok (.aload_n 2, 1) := by decide +kernel
theorem dL_law_345 : decode cL_law 345 = .ok (.aload_n 0, 1) := by decide +kernel
theorem dL_law_346 : decode cL_law 346 = .ok (.iload 4, 2) := by decide +kernel
theorem dL_law_348 : decode cL_law 348 = .ok (.iconst 1, 1) := by decide +kernel
theorem dL_law_349 : decode cL_law 349 = .ok (.iadd, 1) := by decide +kernel
theorem dL_law_350 : decode cL_law 350 = .ok (.iaload, 1) := by decide +kernel
theorem dL_law_351 : decode cL_law 351 = .ok (.aload_n 0, 1) := by decide +kernel
theorem dL_law_352 : decode cL_law 352 = .ok (.iload 4, 2) := by decide +kernel
theorem dL_law_354 : decode cL_law 354 = .ok (.iconst 2, 1) := by decide +kernel
theorem dL_law_355 : decode cL_law 355 = .ok (.iadd, 1) := by decide +kernel
theorem dL_law_356 : decode cL_law 356 = .ok (.iaload, 1) := by decide +kernel
theorem dL_law_357 : decode cL_law 357 = .ok (.aload_n 0, 1) := by decide +kernel
theorem dL_law_358 : decode cL_law 358 = .ok (.iload 4, 2) := by decide +kernel
theorem dL_law_360 : decode cL_law 360 = .ok (.iconst 3, 1) := by decide +kernel
theorem dL_law_361 : decode cL_law 361 = .ok (.iadd, 1) := by decide +kernel
theorem dL_law_362 : decode cL_law 362 = .ok (.iaload, 1) := by decide +kernel
theorem dL_law_363 : decode cL_law 363 = .ok (.invokevirtual 91, 3) := by decide +kernel
theorem dL_law_366 : decode cL_law 366 = .ok (.aload_n 2, 1) := by decide +kernel
theorem dL_law_367 : decode cL_law 367 = .ok (.invokevirtual 77, 3) := by decide +kernel
theorem dL_law_370 : decode cL_law 370 = .ok (.iload 5, 2) := by decide +kernel
theorem dL_law_372 : decode cL_law 372 = .ok (.if_icmp .eq 5, 3) := by decide +kernel
theorem dL_law_375 : decode cL_law 375 = .ok (.iconst 0, 1) := by decide +kernel
theorem dL_law_376 : decode cL_law 376 = .ok (.ireturn, 1) := by decide +kernel
theorem dL_law_377 : decode cL_law 377 = .ok (.goto 671, 3) := by decide +kernel
theorem dL_law_380 : decode cL_law 380 = .ok (.aload_n 1, 1) := by decide +kernel
theorem dL_law_381 : decode cL_law 381 = .ok (.aload_n 0, 1) := by decide +kernel
theorem dL_law_382 : decode cL_law 382 = .ok (.iload 4, 2) := by decide +kernel
theorem dL_law_384 : decode cL_law 384 = .ok (.iconst 1, 1) := by decide +kernel
theorem dL_law_385 : decode cL_law 385 = .ok (.iadd, 1) := by decide +kernel
theorem dL_law_386 : decode cL_law 386 = .ok (.iaload, 1) := by decide +kernel
theorem dL_law_387 : decode cL_law 387 = .ok (.aload_n 0, 1) := by decide +kernel
theorem dL_law_388 : decode cL_law 388 = .ok (.iload 4, 2) := by decide +kernel
theorem dL_law_390 : decode cL_law 390 = .ok (.iconst 2, 1) := by decide +kernel
theorem dL_law_391 : decode cL_law 391 = .ok (.iadd, 1) := by decide +kernel
theorem dL_law_392 : decode cL_law 392 = .ok (.iaload, 1) := by decide +kernel
theorem dL_law_393 : decode cL_law 393 = .ok (.invokestatic 92, 3) := by decide +kernel
theorem dL_law_396 : decode cL_law 396 = .ok (.istore 5, 2) := by decide +kernel
theorem dL_law_398 : decode cL_law 398 = .ok (.aload_n 2, 1) := by decide +kernel
theorem dL_law_399 : decode cL_law 399 = .ok (.aload_n 0, 1) := by decide +kernel
theorem dL_law_400 : decode cL_law 400 = .ok (.iload 4, 2) := by decide +kernel
theorem dL_law_402 : decode cL_law 402 = .ok (.iconst 1, 1) := by decide +kernel
theorem dL_law_403 : decode cL_law 403 = .ok (.iadd, 1) := by decide +kernel
theorem dL_law_404 : decode cL_law 404 = .ok (.iaload, 1) := by decide +kernel
theorem dL_law_405 : decode cL_law 405 = .ok (.aload_n 0, 1) := by decide +kernel
theorem dL_law_406 : decode cL_law 406 = .ok (.iload 4, 2) := by decide +kernel
theorem dL_law_408 : decode cL_law 408 = .ok (.iconst 2, 1) := by decide +kernel
theorem dL_law_409 : decode cL_law 409 = .ok (.iadd, 1) := by decide +kernel
theorem dL_law_410 : decode cL_law 410 = .ok (.iaload, 1) := by decide +kernel
theorem dL_law_411 : decode cL_law 411 = .ok (.invokevirtual 95, 3) := by decide +kernel
theorem dL_law_414 : decode cL_law 414 = .ok (.aload_n 2, 1) := by decide +kernel
theorem dL_law_415 : decode cL_law 415 = .ok (.invokevirtual 77, 3) := by decide +kernel
theorem dL_law_418 : decode cL_law 418 = .ok (.iload 5, 2) := by decide +kernel
theorem dL_law_420 : decode cL_law 420 = .ok (.if_icmp .eq 5, 3) := by decide +kernel
theorem dL_law_423 : decode cL_law 423 = .ok (.iconst 0, 1) := by decide +kernel
theorem dL_law_424 : decode cL_law 424 = .ok (.ireturn, 1) := by decide +kernel
theorem dL_law_425 : decode cL_law 425 = .ok (.goto 623, 3) := by decide +kernel
theorem dL_law_428 : decode cL_law 428 = .ok (.aload_n 1, 1) := by decide +kernel
theorem dL_law_429 : decode cL_law 429 = .ok (.aload_n 0, 1) := by decide +kernel
theorem dL_law_430 : decode cL_law 430 = .ok (.iload 4, 2) := by decide +kernel
theorem dL_law_432 : decode cL_law 432 = .ok (.iconst 1, 1) := by decide +kernel
theorem dL_law_433 : decode cL_law 433 = .ok (.iadd, 1) := by decide +kernel
theorem dL_law_434 : decode cL_law 434 = .ok (.iaload, 1) := by decide +kernel
theorem dL_law_435 : decode cL_law 435 = .ok (.aload_n 0, 1) := by decide +kernel
theorem dL_law_436 : decode cL_law 436 = .ok (.iload 4, 2) := by decide +kernel
theorem dL_law_438 : decode cL_law 438 = .ok (.iconst 2, 1) := by decide +kernel
theorem dL_law_439 : decode cL_law 439 = .ok (.iadd, 1) := by decide +kernel
theorem dL_law_440 : decode cL_law 440 = .ok (.iaload, 1) := by decide +kernel
theorem dL_law_441 : decode cL_law 441 = .ok (.aload_n 0, 1) := by decide +kernel
theorem dL_law_442 : decode cL_law 442 = .ok (.iload 4, 2) := by decide +kernel
theorem dL_law_444 : decode cL_law 444 = .ok (.iconst 3, 1) := by decide +kernel
theorem dL_law_445 : decode cL_law 445 = .ok (.iadd, 1) := by decide +kernel
theorem dL_law_446 : decode cL_law 446 = .ok (.iaload, 1) := by decide +kernel
theorem dL_law_447 : decode cL_law 447 = .ok (.aload_n 0, 1) := by decide +kernel
theorem dL_law_448 : decode cL_law 448 = .ok (.iload 4, 2) := by decide +kernel
theorem dL_law_450 : decode cL_law 450 = .ok (.iconst 4, 1) := by decide +kernel
theorem dL_law_451 : decode cL_law 451 = .ok (.iadd, 1) := by decide +kernel
theorem dL_law_452 : decode cL_law 452 = .ok (.iaload, 1) := by decide +kernel
theorem dL_law_453 : decode cL_law 453 = .ok (.aload_n 3, 1) := by decide +kernel
theorem dL_law_454 : decode cL_law 454 = .ok (.invokestatic 96, 3) := by decide +kernel
theorem dL_law_457 : decode cL_law 457 = .ok (.istore 5, 2) := by decide +kernel
theorem dL_law_459 : decode cL_law 459 = .ok (.aload_n 2, 1) := by decide +kernel
theorem dL_law_460 : decode cL_law 460 = .ok (.aload_n 0, 1) := by decide +kernel
theorem dL_law_461 : decode cL_law 461 = .ok (.iload 4, 2) := by decide +kernel
theorem dL_law_463 : decode cL_law 463 = .ok (.iconst 1, 1) := by decide +kernel
theorem dL_law_464 : decode cL_law 464 = .ok (.iadd, 1) := by decide +kernel
theorem dL_law_465 : decode cL_law 465 = .ok (.iaload, 1) := by decide +kernel
theorem dL_law_466 : decode cL_law 466 = .ok (.aload_n 0, 1) := by decide +kernel
theorem dL_law_467 : decode cL_law 467 = .ok (.iload 4, 2) := by decide +kernel
theorem dL_law_469 : decode cL_law 469 = .ok (.iconst 2, 1) := by decide +kernel
theorem dL_law_470 : decode cL_law 470 = .ok (.iadd, 1) := by decide +kernel
theorem dL_law_471 : decode cL_law 471 = .ok (.iaload, 1) := by decide +kernel
theorem dL_law_472 : decode cL_law 472 = .ok (.aload_n 0, 1) := by decide +kernel
theorem dL_law_473 : decode cL_law 473 = .ok (.iload 4, 2) := by decide +kernel
theorem dL_law_475 : decode cL_law 475 = .ok (.iconst 3, 1) := by decide +kernel
theorem dL_law_476 : decode cL_law 476 = .ok (.iadd, 1) := by decide +kernel
theorem dL_law_477 : decode cL_law 477 = .ok (.iaload, 1) := by decide +kernel
theorem dL_law_478 : decode cL_law 478 = .ok (.aload_n 0, 1) := by decide +kernel
theorem dL_law_479 : decode cL_law 479 = .ok (.iload 4, 2) := by decide +kernel
theorem dL_law_481 : decode cL_law 481 = .ok (.iconst 4, 1) := by decide +kernel
theorem dL_law_482 : decode cL_law 482 = .ok (.iadd, 1) := by decide +kernel
theorem dL_law_483 : decode cL_law 483 = .ok (.iaload, 1) := by decide +kernel
theorem dL_law_484 : decode cL_law 484 = .ok (.invokevirtual 99, 3) := by decide +kernel
theorem dL_law_487 : decode cL_law 487 = .ok (.istore 6, 2) := by decide +kernel
theorem dL_law_489 : decode cL_law 489 = .ok (.aload_n 2, 1) := by decide +kernel
theorem dL_law_490 : decode cL_law 490 = .ok (.invokevirtual 77, 3) := by decide +kernel
theorem dL_law_493 : decode cL_law 493 = .ok (.iload 5, 2) := by decide +kernel
theorem dL_law_495 : decode cL_law 495 = .ok (.if_icmp .eq 5, 3) := by decide +kernel
theorem dL_law_498 : decode cL_law 498 = .ok (.iconst 0, 1) := by decide +kernel
theorem dL_law_499 : decode cL_law 499 = .ok (.ireturn, 1) := by decide +kernel
theorem dL_law_500 : decode cL_law 500 = .ok (.iload 5, 2) := by decide +kernel
theorem dL_law_502 : decode cL_law 502 = .ok (.ifCond .ne 15, 3) := by decide +kernel
theorem dL_law_505 : decode cL_law 505 = .ok (.aload_n 3, 1) := by decide +kernel
theorem dL_law_506 : decode cL_law 506 = .ok (.iconst 0, 1) := by decide +kernel
theorem dL_law_507 : decode cL_law 507 = .ok (.laload, 1) := by decide +kernel
theorem dL_law_508 : decode cL_law 508 = .ok (.iload 6, 2) := by decide +kernel
theorem dL_law_510 : decode cL_law 510 = .ok (.i2l, 1) := by decide +kernel
theorem dL_law_511 : decode cL_law 511 = .ok (.lcmp, 1) := by decide +kernel
theorem dL_law_512 : decode cL_law 512 = .ok (.ifCond .eq 5, 3) := by decide +kernel
theorem dL_law_515 : decode cL_law 515 = .ok (.iconst 0, 1) := by decide +kernel
theorem dL_law_516 : decode cL_law 516 = .ok (.ireturn, 1) := by decide +kernel
theorem dL_law_517 : decode cL_law 517 = .ok (.goto 531, 3) := by decide +kernel
theorem dL_law_520 : decode cL_law 520 = .ok (.aload_n 1, 1) := by decide +kernel
theorem dL_law_521 : decode cL_law 521 = .ok (.aload_n 0, 1) := by decide +kernel
theorem dL_law_522 : decode cL_law 522 = .ok (.iload 4, 2) := by decide +kernel
theorem dL_law_524 : decode cL_law 524 = .ok (.iconst 1, 1) := by decide +kernel
theorem dL_law_525 : decode cL_law 525 = .ok (.iadd, 1) := by decide +kernel
theorem dL_law_526 : decode cL_law 526 = .ok (.iaload, 1) := by decide +kernel
theorem dL_law_527 : decode cL_law 527 = .ok (.aload_n 0, 1) := by decide +kernel
theorem dL_law_528 : decode cL_law 528 = .ok (.iload 4, 2) := by decide +kernel
theorem dL_law_530 : decode cL_law 530 = .ok (.iconst 2, 1) := by decide +kernel
theorem dL_law_531 : decode cL_law 531 = .ok (.iadd, 1) := by decide +kernel
theorem dL_law_532 : decode cL_law 532 = .ok (.iaload, 1) := by decide +kernel
theorem dL_law_533 : decode cL_law 533 = .ok (.aload_n 3, 1) := by decide +kernel
theorem dL_law_534 : decode cL_law 534 = .ok (.invokestatic 100, 3) := by decide +kernel
theorem dL_law_537 : decode cL_law 537 = .ok (.istore 5, 2) := by decide +kernel
theorem dL_law_539 : decode cL_law 539 = .ok (.aload_n 2, 1) := by decide +kernel
theorem dL_law_540 : decode cL_law 540 = .ok (.aload_n 0, 1) := by decide +kernel
theorem dL_law_541 : decode cL_law 541 = .ok (.iload 4, 2) := by decide +kernel
theorem dL_law_543 : decode cL_law 543 = .ok (.iconst 1, 1) := by decide +kernel
theorem dL_law_544 : decode cL_law 544 = .ok (.iadd, 1) := by decide +kernel
theorem dL_law_545 : decode cL_law 545 = .ok (.iaload, 1) := by decide +kernel
theorem dL_law_546 : decode cL_law 546 = .ok (.aload_n 0, 1) := by decide +kernel
theorem dL_law_547 : decode cL_law 547 = .ok (.iload 4, 2) := by decide +kernel
theorem dL_law_549 : decode cL_law 549 = .ok (.iconst 2, 1) := by decide +kernel
theorem dL_law_550 : decode cL_law 550 = .ok (.iadd, 1) := by decide +kernel
theorem dL_law_551 : decode cL_law 551 = .ok (.iaload, 1) := by decide +kernel
theorem dL_law_552 : decode cL_law 552 = .ok (.invokevirtual 102, 3) := by decide +kernel
theorem dL_law_555 : decode cL_law 555 = .ok (.istore 6, 2) := by decide +kernel
theorem dL_law_557 : decode cL_law 557 = .ok (.aload_n 2, 1) := by decide +kernel
theorem dL_law_558 : decode cL_law 558 = .ok (.invokevirtual 77, 3) := by decide +kernel
theorem dL_law_561 : decode cL_law 561 = .ok (.iload 5, 2) := by decide +kernel
theorem dL_law_563 : decode cL_law 563 = .ok (.if_icmp .eq 5, 3) := by decide +kernel
theorem dL_law_566 : decode cL_law 566 = .ok (.iconst 0, 1) := by decide +kernel
theorem dL_law_567 : decode cL_law 567 = .ok (.ireturn, 1) := by decide +kernel
theorem dL_law_568 : decode cL_law 568 = .ok (.iload 5, 2) := by decide +kernel
theorem dL_law_570 : decode cL_law 570 = .ok (.ifCond .ne 15, 3) := by decide +kernel
theorem dL_law_573 : decode cL_law 573 = .ok (.aload_n 3, 1) := by decide +kernel
theorem dL_law_574 : decode cL_law 574 = .ok (.iconst 0, 1) := by decide +kernel
theorem dL_law_575 : decode cL_law 575 = .ok (.laload, 1) := by decide +kernel
theorem dL_law_576 : decode cL_law 576 = .ok (.iload 6, 2) := by decide +kernel
theorem dL_law_578 : decode cL_law 578 = .ok (.i2l, 1) := by decide +kernel
theorem dL_law_579 : decode cL_law 579 = .ok (.lcmp, 1) := by decide +kernel
theorem dL_law_580 : decode cL_law 580 = .ok (.ifCond .eq 5, 3) := by decide +kernel
theorem dL_law_583 : decode cL_law 583 = .ok (.iconst 0, 1) := by decide +kernel
theorem dL_law_584 : decode cL_law 584 = .ok (.ireturn, 1) := by decide +kernel
theorem dL_law_585 : decode cL_law 585 = .ok (.goto 463, 3) := by decide +kernel
theorem dL_law_588 : decode cL_law 588 = .ok (.aload_n 1, 1) := by decide +kernel
theorem dL_law_589 : decode cL_law 589 = .ok (.aload_n 0, 1) := by decide +kernel
theorem dL_law_590 : decode cL_law 590 = .ok (.iload 4, 2) := by decide +kernel
theorem dL_law_592 : decode cL_law 592 = .ok (.iconst 1, 1) := by decide +kernel
theorem dL_law_593 : decode cL_law 593 = .ok (.iadd, 1) := by decide +kernel
theorem dL_law_594 : decode cL_law 594 = .ok (.iaload, 1) := by decide +kernel
theorem dL_law_595 : decode cL_law 595 = .ok (.aload_n 3, 1) := by decide +kernel
theorem dL_law_596 : decode cL_law 596 = .ok (.invokestatic 103, 3) := by decide +kernel
theorem dL_law_599 : decode cL_law 599 = .ok (.istore 5, 2) := by decide +kernel
theorem dL_law_601 : decode cL_law 601 = .ok (.aload_n 2, 1) := by decide +kernel
theorem dL_law_602 : decode cL_law 602 = .ok (.aload_n 0, 1) := by decide +kernel
theorem dL_law_603 : decode cL_law 603 = .ok (.iload 4, 2) := by decide +kernel
theorem dL_law_605 : decode cL_law 605 = .ok (.iconst 1, 1) := by decide +kernel
theorem dL_law_606 : decode cL_law 606 = .ok (.iadd, 1) := by decide +kernel
theorem dL_law_607 : decode cL_law 607 = .ok (.iaload, 1) := by decide +kernel
theorem dL_law_608 : decode cL_law 608 = .ok (.invokevirtual 105, 3) := by decide +kernel
theorem dL_law_611 : decode cL_law 611 = .ok (.istore 6, 2) := by decide +kernel
theorem dL_law_613 : decode cL_law 613 = .ok (.aload_n 2, 1) := by decide +kernel
theorem dL_law_614 : decode cL_law 614 = .ok (.invokevirtual 77, 3) := by decide +kernel
theorem dL_law_617 : decode cL_law 617 = .ok (.iload 5, 2) := by decide +kernel
theorem dL_law_619 : decode cL_law 619 = .ok (.if_icmp .eq 5, 3) := by decide +kernel
theorem dL_law_622 : decode cL_law 622 = .ok (.iconst 0, 1) := by decide +kernel
theorem dL_law_623 : decode cL_law 623 = .ok (.ireturn, 1) := by decide +kernel
theorem dL_law_624 : decode cL_law 624 = .ok (.iload 5, 2) := by decide +kernel
theorem dL_law_626 : decode cL_law 626 = .ok (.ifCond .ne 15, 3) := by decide +kernel
theorem dL_law_629 : decode cL_law 629 = .ok (.aload_n 3, 1) := by decide +kernel
theorem dL_law_630 : decode cL_law 630 = .ok (.iconst 0, 1) := by decide +kernel
theorem dL_law_631 : decode cL_law 631 = .ok (.laload, 1) := by decide +kernel
theorem dL_law_632 : decode cL_law 632 = .ok (.iload 6, 2) := by decide +kernel
theorem dL_law_634 : decode cL_law 634 = .ok (.i2l, 1) := by decide +kernel
theorem dL_law_635 : decode cL_law 635 = .ok (.lcmp, 1) := by decide +kernel
theorem dL_law_636 : decode cL_law 636 = .ok (.ifCond .eq 5, 3) := by decide +kernel
theorem dL_law_639 : decode cL_law 639 = .ok (.iconst 0, 1) := by decide +kernel
theorem dL_law_640 : decode cL_law 640 = .ok (.ireturn, 1) := by decide +kernel
theorem dL_law_641 : decode cL_law 641 = .ok (.goto 407, 3) := by decide +kernel
theorem dL_law_644 : decode cL_law 644 = .ok (.aload_n 1, 1) := by decide +kernel
theorem dL_law_645 : decode cL_law 645 = .ok (.aload_n 3, 1) := by decide +kernel
theorem dL_law_646 : decode cL_law 646 = .ok (.invokestatic 106, 3) := by decide +kernel
theorem dL_law_649 : decode cL_law 649 = .ok (.istore 5, 2) := by decide +kernel
theorem dL_law_651 : decode cL_law 651 = .ok (.aload_n 2, 1) := by decide +kernel
theorem dL_law_652 : decode cL_law 652 = .ok (.invokevirtual 109, 3) := by decide +kernel
theorem dL_law_655 : decode cL_law 655 = .ok (.istore 6, 2) := by decide +kernel
theorem dL_law_657 : decode cL_law 657 = .ok (.aload_n 2, 1) := by decide +kernel
theorem dL_law_658 : decode cL_law 658 = .ok (.invokevirtual 77, 3) := by decide +kernel
theorem dL_law_661 : decode cL_law 661 = .ok (.iload 5, 2) := by decide +kernel
theorem dL_law_663 : decode cL_law 663 = .ok (.if_icmp .eq 5, 3) := by decide +kernel
theorem dL_law_666 : decode cL_law 666 = .ok (.iconst 0, 1) := by decide +kernel
theorem dL_law_667 : decode cL_law 667 = .ok (.ireturn, 1) := by decide +kernel
theorem dL_law_668 : decode cL_law 668 = .ok (.iload 5, 2) := by decide +kernel
theorem dL_law_670 : decode cL_law 670 = .ok (.ifCond .ne 15, 3) := by decide +kernel
theorem dL_law_673 : decode cL_law 673 = .ok (.aload_n 3, 1) := by decide +kernel
theorem dL_law_674 : decode cL_law 674 = .ok (.iconst 0, 1) := by decide +kernel
theorem dL_law_675 : decode cL_law 675 = .ok (.laload, 1) := by decide +kernel
theorem dL_law_676 : decode cL_law 676 = .ok (.iload 6, 2) := by decide +kernel
theorem dL_law_678 : decode cL_law 678 = .ok (.i2l, 1) := by decide +kernel
theorem dL_law_679 : decode cL_law 679 = .ok (.lcmp, 1) := by decide +kernel
theorem dL_law_680 : decode cL_law 680 = .ok (.ifCond .eq 5, 3) := by decide +kernel
theorem dL_law_683 : decode cL_law 683 = .ok (.iconst 0, 1) := by decide +kernel
theorem dL_law_684 : decode cL_law 684 = .ok (.ireturn, 1) := by decide +kernel
theorem dL_law_685 : decode cL_law 685 = .ok (.goto 363, 3) := by decide +kernel
theorem dL_law_688 : decode cL_law 688 = .ok (.aload_n 1, 1) := by decide +kernel
theorem dL_law_689 : decode cL_law 689 = .ok (.invokevirtual 110, 3) := by decide +kernel
theorem dL_law_692 : decode cL_law 692 = .ok (.aload_n 2, 1) := by decide +kernel
theorem dL_law_693 : decode cL_law 693 = .ok (.invokevirtual 113, 3) := by decide +kernel
theorem dL_law_696 : decode cL_law 696 = .ok (.if_icmp .eq 352, 3) := by decide +kernel
theorem dL_law_699 : decode cL_law 699 = .ok (.iconst 0, 1) := by decide +kernel
theorem dL_law_700 : decode cL_law 700 = .ok (.ireturn, 1) := by decide +kernel
theorem dL_law_701 : decode cL_law 701 = .ok (.aload_n 1, 1) := by decide +kernel
theorem dL_law_702 : decode cL_law 702 = .ok (.aload_n 0, 1) := by decide +kernel
theorem dL_law_703 : decode cL_law 703 = .ok (.iload 4, 2) := by decide +kernel
theorem dL_law_705 : decode cL_law 705 = .ok (.iconst 1, 1) := by decide +kernel
theorem dL_law_706 : decode cL_law 706 = .ok (.iadd, 1) := by decide +kernel
theorem dL_law_707 : decode cL_law 707 = .ok (.iaload, 1) := by decide +kernel
theorem dL_law_708 : decode cL_law 708 = .ok (.aload_n 3, 1) := by decide +kernel
theorem dL_law_709 : decode cL_law 709 = .ok (.invokestatic 114, 3) := by decide +kernel
theorem dL_law_712 : decode cL_law 712 = .ok (.istore 5, 2) := by decide +kernel
theorem dL_law_714 : decode cL_law 714 = .ok (.aload_n 2, 1) := by decide +kernel
theorem dL_law_715 : decode cL_law 715 = .ok (.aload_n 0, 1) := by decide +kernel
theorem dL_law_716 : decode cL_law 716 = .ok (.iload 4, 2) := by decide +kernel
theorem dL_law_718 : decode cL_law 718 = .ok (.iconst 1, 1) := by decide +kernel
theorem dL_law_719 : decode cL_law 719 = .ok (.iadd, 1) := by decide +kernel
theorem dL_law_720 : decode cL_law 720 = .ok (.iaload, 1) := by decide +kernel
theorem dL_law_721 : decode cL_law 721 = .ok (.invokevirtual 116, 3) := by decide +kernel
theorem dL_law_724 : decode cL_law 724 = .ok (.istore 6, 2) := by decide +kernel
theorem dL_law_726 : decode cL_law 726 = .ok (.aload_n 2, 1) := by decide +kernel
theorem dL_law_727 : decode cL_law 727 = .ok (.invokevirtual 77, 3) := by decide +kernel
theorem dL_law_730 : decode cL_law 730 = .ok (.iload 5, 2) := by decide +kernel
theorem dL_law_732 : decode cL_law 732 = .ok (.if_icmp .eq 5, 3) := by decide +kernel
theorem dL_law_735 : decode cL_law 735 = .ok (.iconst 0, 1) := by decide +kernel
theorem dL_law_736 : decode cL_law 736 = .ok (.ireturn, 1) := by decide +kernel
theorem dL_law_737 : decode cL_law 737 = .ok (.iload 5, 2) := by decide +kernel
theorem dL_law_739 : decode cL_law 739 = .ok (.ifCond .ne 15, 3) := by decide +kernel
theorem dL_law_742 : decode cL_law 742 = .ok (.aload_n 3, 1) := by decide +kernel
theorem dL_law_743 : decode cL_law 743 = .ok (.iconst 0, 1) := by decide +kernel
theorem dL_law_744 : decode cL_law 744 = .ok (.laload, 1) := by decide +kernel
theorem dL_law_745 : decode cL_law 745 = .ok (.iload 6, 2) := by decide +kernel
theorem dL_law_747 : decode cL_law 747 = .ok (.i2l, 1) := by decide +kernel
theorem dL_law_748 : decode cL_law 748 = .ok (.lcmp, 1) := by decide +kernel
theorem dL_law_749 : decode cL_law 749 = .ok (.ifCond .eq 5, 3) := by decide +kernel
theorem dL_law_752 : decode cL_law 752 = .ok (.iconst 0, 1) := by decide +kernel
theorem dL_law_753 : decode cL_law 753 = .ok (.ireturn, 1) := by decide +kernel
theorem dL_law_754 : decode cL_law 754 = .ok (.goto 294, 3) := by decide +kernel
theorem dL_law_757 : decode cL_law 757 = .ok (.aload_n 1, 1) := by decide +kernel
theorem dL_law_758 : decode cL_law 758 = .ok (.invokevirtual 117, 3) := by decide +kernel
theorem dL_law_761 : decode cL_law 761 = .ok (.aload_n 2, 1) := by decide +kernel
theorem dL_law_762 : decode cL_law 762 = .ok (.invokevirtual 120, 3) := by decide +kernel
theorem dL_law_765 : decode cL_law 765 = .ok (.if_icmp .eq 283, 3) := by decide +kernel
theorem dL_law_768 : decode cL_law 768 = .ok (.iconst 0, 1) := by decide +kernel
theorem dL_law_769 : decode cL_law 769 = .ok (.ireturn, 1) := by decide +kernel
theorem dL_law_770 : decode cL_law 770 = .ok (.aload_n 1, 1) := by decide +kernel
theorem dL_law_771 : decode cL_law 771 = .ok (.aload_n 0, 1) := by decide +kernel
theorem dL_law_772 : decode cL_law 772 = .ok (.iload 4, 2) := by decide +kernel
theorem dL_law_774 : decode cL_law 774 = .ok (.iconst 1, 1) := by decide +kernel
theorem dL_law_775 : decode cL_law 775 = .ok (.iadd, 1) := by decide +kernel
theorem dL_law_776 : decode cL_law 776 = .ok (.iaload, 1) := by decide +kernel
theorem dL_law_777 : decode cL_law 777 = .ok (.aload_n 3, 1) := by decide +kernel
theorem dL_law_778 : decode cL_law 778 = .ok (.invokestatic 121, 3) := by decide +kernel
theorem dL_law_781 : decode cL_law 781 = .ok (.istore 5, 2) := by decide +kernel
theorem dL_law_783 : decode cL_law 783 = .ok (.aload_n 2, 1) := by decide +kernel
theorem dL_law_784 : decode cL_law 784 = .ok (.aload_n 0, 1) := by decide +kernel
theorem dL_law_785 : decode cL_law 785 = .ok (.iload 4, 2) := by decide +kernel
theorem dL_law_787 : decode cL_law 787 = .ok (.iconst 1, 1) := by decide +kernel
theorem dL_law_788 : decode cL_law 788 = .ok (.iadd, 1) := by decide +kernel
theorem dL_law_789 : decode cL_law 789 = .ok (.iaload, 1) := by decide +kernel
theorem dL_law_790 : decode cL_law 790 = .ok (.invokevirtual 123, 3) := by decide +kernel
theorem dL_law_793 : decode cL_law 793 = .ok (.istore 6, 2) := by decide +kernel
theorem dL_law_795 : decode cL_law 795 = .ok (.aload_n 2, 1) := by decide +kernel
theorem dL_law_796 : decode cL_law 796 = .ok (.invokevirtual 77, 3) := by decide +kernel
theorem dL_law_799 : decode cL_law 799 = .ok (.iload 5, 2) := by decide +kernel
theorem dL_law_801 : decode cL_law 801 = .ok (.if_icmp .eq 5, 3) := by decide +kernel
theorem dL_law_804 : decode cL_law 804 = .ok (.iconst 0, 1) := by decide +kernel
theorem dL_law_805 : decode cL_law 805 = .ok (.ireturn, 1) := by decide +kernel
theorem dL_law_806 : decode cL_law 806 = .ok (.iload 5, 2) := by decide +kernel
theorem dL_law_808 : decode cL_law 808 = .ok (.ifCond .ne 15, 3) := by decide +kernel
theorem dL_law_811 : decode cL_law 811 = .ok (.aload_n 3, 1) := by decide +kernel
theorem dL_law_812 : decode cL_law 812 = .ok (.iconst 0, 1) := by decide +kernel
theorem dL_law_813 : decode cL_law 813 = .ok (.laload, 1) := by decide +kernel
theorem dL_law_814 : decode cL_law 814 = .ok (.iload 6, 2) := by decide +kernel
theorem dL_law_816 : decode cL_law 816 = .ok (.i2l, 1) := by decide +kernel
theorem dL_law_817 : decode cL_law 817 = .ok (.lcmp, 1) := by decide +kernel
theorem dL_law_818 : decode cL_law 818 = .ok (.ifCond .eq 5, 3) := by decide +kernel
theorem dL_law_821 : decode cL_law 821 = .ok (.iconst 0, 1) := by decide +kernel
theorem dL_law_822 : decode cL_law 822 = .ok (.ireturn, 1) := by decide +kernel
theorem dL_law_823 : decode cL_law 823 = .ok (.goto 225, 3) := by decide +kernel
theorem dL_law_826 : decode cL_law 826 = .ok (.aload_n 1, 1) := by decide +kernel
theorem dL_law_827 : decode cL_law 827 = .ok (.aload_n 0, 1) := by decide +kernel
theorem dL_law_828 : decode cL_law 828 = .ok (.iload 4, 2) := by decide +kernel
theorem dL_law_830 : decode cL_law 830 = .ok (.iconst 1, 1) := by decide +kernel
theorem dL_law_831 : decode cL_law 831 = .ok (.iadd, 1) := by decide +kernel
theorem dL_law_832 : decode cL_law 832 = .ok (.iaload, 1) := by decide +kernel
theorem dL_law_833 : decode cL_law 833 = .ok (.aload_n 0, 1) := by decide +kernel
theorem dL_law_834 : decode cL_law 834 = .ok (.iload 4, 2) := by decide +kernel
theorem dL_law_836 : decode cL_law 836 = .ok (.iconst 2, 1) := by decide +kernel
theorem dL_law_837 : decode cL_law 837 = .ok (.iadd, 1) := by decide +kernel
theorem dL_law_838 : decode cL_law 838 = .ok (.iaload, 1) := by decide +kernel
theorem dL_law_839 : decode cL_law 839 = .ok (.aload_n 0, 1) := by decide +kernel
theorem dL_law_840 : decode cL_law 840 = .ok (.iload 4, 2) := by decide +kernel
theorem dL_law_842 : decode cL_law 842 = .ok (.iconst 3, 1) := by decide +kernel
theorem dL_law_843 : decode cL_law 843 = .ok (.iadd, 1) := by decide +kernel
theorem dL_law_844 : decode cL_law 844 = .ok (.iaload, 1) := by decide +kernel
theorem dL_law_845 : decode cL_law 845 = .ok (.aload_n 0, 1) := by decide +kernel
theorem dL_law_846 : decode cL_law 846 = .ok (.iload 4, 2) := by decide +kernel
theorem dL_law_848 : decode cL_law 848 = .ok (.iconst 4, 1) := by decide +kernel
theorem dL_law_849 : decode cL_law 849 = .ok (.iadd, 1) := by decide +kernel
theorem dL_law_850 : decode cL_law 850 = .ok (.iaload, 1) := by decide +kernel
theorem dL_law_851 : decode cL_law 851 = .ok (.aload_n 0, 1) := by decide +kernel
theorem dL_law_852 : decode cL_law 852 = .ok (.iload 4, 2) := by decide +kernel
theorem dL_law_854 : decode cL_law 854 = .ok (.iconst 5, 1) := by decide +kernel
theorem dL_law_855 : decode cL_law 855 = .ok (.iadd, 1) := by decide +kernel
theorem dL_law_856 : decode cL_law 856 = .ok (.iaload, 1) := by decide +kernel
theorem dL_law_857 : decode cL_law 857 = .ok (.aload_n 3, 1) := by decide +kernel
theorem dL_law_858 : decode cL_law 858 = .ok (.invokestatic 124, 3) := by decide +kernel
theorem dL_law_861 : decode cL_law 861 = .ok (.istore 5, 2) := by decide +kernel
theorem dL_law_863 : decode cL_law 863 = .ok (.aload_n 2, 1) := by decide +kernel
theorem dL_law_864 : decode cL_law 864 = .ok (.aload_n 0, 1) := by decide +kernel
theorem dL_law_865 : decode cL_law 865 = .ok (.iload 4, 2) := by decide +kernel
theorem dL_law_867 : decode cL_law 867 = .ok (.iconst 1, 1) := by decide +kernel
theorem dL_law_868 : decode cL_law 868 = .ok (.iadd, 1) := by decide +kernel
theorem dL_law_869 : decode cL_law 869 = .ok (.iaload, 1) := by decide +kernel
theorem dL_law_870 : decode cL_law 870 = .ok (.aload_n 0, 1) := by decide +kernel
theorem dL_law_871 : decode cL_law 871 = .ok (.iload 4, 2) := by decide +kernel
theorem dL_law_873 : decode cL_law 873 = .ok (.iconst 2, 1) := by decide +kernel
theorem dL_law_874 : decode cL_law 874 = .ok (.iadd, 1) := by decide +kernel
theorem dL_law_875 : decode cL_law 875 = .ok (.iaload, 1) := by decide +kernel
theorem dL_law_876 : decode cL_law 876 = .ok (.aload_n 0, 1) := by decide +kernel
theorem dL_law_877 : decode cL_law 877 = .ok (.iload 4, 2) := by decide +kernel
theorem dL_law_879 : decode cL_law 879 = .ok (.iconst 3, 1) := by decide +kernel
theorem dL_law_880 : decode cL_law 880 = .ok (.iadd, 1) := by decide +kernel
theorem dL_law_881 : decode cL_law 881 = .ok (.iaload, 1) := by decide +kernel
theorem dL_law_882 : decode cL_law 882 = .ok (.aload_n 0, 1) := by decide +kernel
theorem dL_law_883 : decode cL_law 883 = .ok (.iload 4, 2) := by decide +kernel
theorem dL_law_885 : decode cL_law 885 = .ok (.iconst 4, 1) := by decide +kernel
theorem dL_law_886 : decode cL_law 886 = .ok (.iadd, 1) := by decide +kernel
theorem dL_law_887 : decode cL_law 887 = .ok (.iaload, 1) := by decide +kernel
theorem dL_law_888 : decode cL_law 888 = .ok (.aload_n 0, 1) := by decide +kernel
theorem dL_law_889 : decode cL_law 889 = .ok (.iload 4, 2) := by decide +kernel
theorem dL_law_891 : decode cL_law 891 = .ok (.iconst 5, 1) := by decide +kernel
theorem dL_law_892 : decode cL_law 892 = .ok (.iadd, 1) := by decide +kernel
theorem dL_law_893 : decode cL_law 893 = .ok (.iaload, 1) := by decide +kernel
theorem dL_law_894 : decode cL_law 894 = .ok (.invokevirtual 127, 3) := by decide +kernel
theorem dL_law_897 : decode cL_law 897 = .ok (.istore 6, 2) := by decide +kernel
theorem dL_law_899 : decode cL_law 899 = .ok (.aload_n 2, 1) := by decide +kernel
theorem dL_law_900 : decode cL_law 900 = .ok (.invokevirtual 77, 3) := by decide +kernel
theorem dL_law_903 : decode cL_law 903 = .ok (.iload 5, 2) := by decide +kernel
theorem dL_law_905 : decode cL_law 905 = .ok (.if_icmp .eq 5, 3) := by decide +kernel
theorem dL_law_908 : decode cL_law 908 = .ok (.iconst 0, 1) := by decide +kernel
theorem dL_law_909 : decode cL_law 909 = .ok (.ireturn, 1) := by decide +kernel
theorem dL_law_910 : decode cL_law 910 = .ok (.iload 5, 2) := by decide +kernel
theorem dL_law_912 : decode cL_law 912 = .ok (.ifCond .ne 15, 3) := by decide +kernel
theorem dL_law_915 : decode cL_law 915 = .ok (.aload_n 3, 1) := by decide +kernel
theorem dL_law_916 : decode cL_law 916 = .ok (.iconst 0, 1) := by decide +kernel
theorem dL_law_917 : decode cL_law 917 = .ok (.laload, 1) := by decide +kernel
theorem dL_law_918 : decode cL_law 918 = .ok (.iload 6, 2) := by decide +kernel
theorem dL_law_920 : decode cL_law 920 = .ok (.i2l, 1) := by decide +kernel
theorem dL_law_921 : decode cL_law 921 = .ok (.lcmp, 1) := by decide +kernel
theorem dL_law_922 : decode cL_law 922 = .ok (.ifCond .eq 5, 3) := by decide +kernel
theorem dL_law_925 : decode cL_law 925 = .ok (.iconst 0, 1) := by decide +kernel
theorem dL_law_926 : decode cL_law 926 = .ok (.ireturn, 1) := by decide +kernel
theorem dL_law_927 : decode cL_law 927 = .ok (.goto 121, 3) := by decide +kernel
theorem dL_law_930 : decode cL_law 930 = .ok (.aload_n 1, 1) := by decide +kernel
theorem dL_law_931 : decode cL_law 931 = .ok (.aload_n 0, 1) := by decide +kernel
theorem dL_law_932 : decode cL_law 932 = .ok (.iload 4, 2) := by decide +kernel
theorem dL_law_934 : decode cL_law 934 = .ok (.iconst 1, 1) := by decide +kernel
theorem dL_law_935 : decode cL_law 935 = .ok (.iadd, 1) := by decide +kernel
theorem dL_law_936 : decode cL_law 936 = .ok (.iaload, 1) := by decide +kernel
theorem dL_law_937 : decode cL_law 937 = .ok (.aload_n 0, 1) := by decide +kernel
theorem dL_law_938 : decode cL_law 938 = .ok (.iload 4, 2) := by decide +kernel
theorem dL_law_940 : decode cL_law 940 = .ok (.iconst 2, 1) := by decide +kernel
theorem dL_law_941 : decode cL_law 941 = .ok (.iadd, 1) := by decide +kernel
theorem dL_law_942 : decode cL_law 942 = .ok (.iaload, 1) := by decide +kernel
theorem dL_law_943 : decode cL_law 943 = .ok (.aload_n 0, 1) := by decide +kernel
theorem dL_law_944 : decode cL_law 944 = .ok (.iload 4, 2) := by decide +kernel
theorem dL_law_946 : decode cL_law 946 = .ok (.iconst 3, 1) := by decide +kernel
theorem dL_law_947 : decode cL_law 947 = .ok (.iadd, 1) := by decide +kernel
theorem dL_law_948 : decode cL_law 948 = .ok (.iaload, 1) := by decide +kernel
theorem dL_law_949 : decode cL_law 949 = .ok (.aload_n 0, 1) := by decide +kernel
theorem dL_law_950 : decode cL_law 950 = .ok (.iload 4, 2) := by decide +kernel
theorem dL_law_952 : decode cL_law 952 = .ok (.iconst 4, 1) := by decide +kernel
theorem dL_law_953 : decode cL_law 953 = .ok (.iadd, 1) := by decide +kernel
theorem dL_law_954 : decode cL_law 954 = .ok (.iaload, 1) := by decide +kernel
theorem dL_law_955 : decode cL_law 955 = .ok (.aload_n 0, 1) := by decide +kernel
theorem dL_law_956 : decode cL_law 956 = .ok (.iload 4, 2) := by decide +kernel
theorem dL_law_958 : decode cL_law 958 = .ok (.iconst 5, 1) := by decide +kernel
theorem dL_law_959 : decode cL_law 959 = .ok (.iadd, 1) := by decide +kernel
theorem dL_law_960 : decode cL_law 960 = .ok (.iaload, 1) := by decide +kernel
theorem dL_law_961 : decode cL_law 961 = .ok (.aload_n 0, 1) := by decide +kernel
theorem dL_law_962 : decode cL_law 962 = .ok (.iload 4, 2) := by decide +kernel
theorem dL_law_964 : decode cL_law 964 = .ok (.bipush 6, 2) := by decide +kernel
theorem dL_law_966 : decode cL_law 966 = .ok (.iadd, 1) := by decide +kernel
theorem dL_law_967 : decode cL_law 967 = .ok (.iaload, 1) := by decide +kernel
theorem dL_law_968 : decode cL_law 968 = .ok (.aload_n 3, 1) := by decide +kernel
theorem dL_law_969 : decode cL_law 969 = .ok (.invokestatic 128, 3) := by decide +kernel
theorem dL_law_972 : decode cL_law 972 = .ok (.istore 5, 2) := by decide +kernel
theorem dL_law_974 : decode cL_law 974 = .ok (.aload_n 2, 1) := by decide +kernel
theorem dL_law_975 : decode cL_law 975 = .ok (.aload_n 0, 1) := by decide +kernel
theorem dL_law_976 : decode cL_law 976 = .ok (.iload 4, 2) := by decide +kernel
theorem dL_law_978 : decode cL_law 978 = .ok (.iconst 1, 1) := by decide +kernel
theorem dL_law_979 : decode cL_law 979 = .ok (.iadd, 1) := by decide +kernel
theorem dL_law_980 : decode cL_law 980 = .ok (.iaload, 1) := by decide +kernel
theorem dL_law_981 : decode cL_law 981 = .ok (.aload_n 0, 1) := by decide +kernel
theorem dL_law_982 : decode cL_law 982 = .ok (.iload 4, 2) := by decide +kernel
theorem dL_law_984 : decode cL_law 984 = .ok (.iconst 2, 1) := by decide +kernel
theorem dL_law_985 : decode cL_law 985 = .ok (.iadd, 1) := by decide +kernel
theorem dL_law_986 : decode cL_law 986 = .ok (.iaload, 1) := by decide +kernel
theorem dL_law_987 : decode cL_law 987 = .ok (.aload_n 0, 1) := by decide +kernel
theorem dL_law_988 : decode cL_law 988 = .ok (.iload 4, 2) := by decide +kernel
theorem dL_law_990 : decode cL_law 990 = .ok (.iconst 3, 1) := by decide +kernel
theorem dL_law_991 : decode cL_law 991 = .ok (.iadd, 1) := by decide +kernel
theorem dL_law_992 : decode cL_law 992 = .ok (.iaload, 1) := by decide +kernel
theorem dL_law_993 : decode cL_law 993 = .ok (.aload_n 0, 1) := by decide +kernel
theorem dL_law_994 : decode cL_law 994 = .ok (.iload 4, 2) := by decide +kernel
theorem dL_law_996 : decode cL_law 996 = .ok (.iconst 4, 1) := by decide +kernel
theorem dL_law_997 : decode cL_law 997 = .ok (.iadd, 1) := by decide +kernel
theorem dL_law_998 : decode cL_law 998 = .ok (.iaload, 1) := by decide +kernel
theorem dL_law_999 : decode cL_law 999 = .ok (.aload_n 0, 1) := by decide +kernel
theorem dL_law_1000 : decode cL_law 1000 = .ok (.iload 4, 2) := by decide +kernel
theorem dL_law_1002 : decode cL_law 1002 = .ok (.iconst 5, 1) := by decide +kernel
theorem dL_law_1003 : decode cL_law 1003 = .ok (.iadd, 1) := by decide +kernel
theorem dL_law_1004 : decode cL_law 1004 = .ok (.iaload, 1) := by decide +kernel
theorem dL_law_1005 : decode cL_law 1005 = .ok (.aload_n 0, 1) := by decide +kernel
theorem dL_law_1006 : decode cL_law 1006 = .ok (.iload 4, 2) := by decide +kernel
theorem dL_law_1008 : decode cL_law 1008 = .ok (.bipush 6, 2) := by decide +kernel
theorem dL_law_1010 : decode cL_law 1010 = .ok (.iadd, 1) := by decide +kernel
theorem dL_law_1011 : decode cL_law 1011 = .ok (.iaload, 1) := by decide +kernel
theorem dL_law_1012 : decode cL_law 1012 = .ok (.invokevirtual 131, 3) := by decide +kernel
theorem dL_law_1015 : decode cL_law 1015 = .ok (.istore 6, 2) := by decide +kernel
theorem dL_law_1017 : decode cL_law 1017 = .ok (.aload_n 2, 1) := by decide +kernel
theorem dL_law_1018 : decode cL_law 1018 = .ok (.invokevirtual 77, 3) := by decide +kernel
theorem dL_law_1021 : decode cL_law 1021 = .ok (.iload 5, 2) := by decide +kernel
theorem dL_law_1023 : decode cL_law 1023 = .ok (.if_icmp .eq 5, 3) := by decide +kernel
theorem dL_law_1026 : decode cL_law 1026 = .ok (.iconst 0, 1) := by decide +kernel
theorem dL_law_1027 : decode cL_law 1027 = .ok (.ireturn, 1) := by decide +kernel
theorem dL_law_1028 : decode cL_law 1028 = .ok (.iload 5, 2) := by decide +kernel
theorem dL_law_1030 : decode cL_law 1030 = .ok (.ifCond .ne 15, 3) := by decide +kernel
theorem dL_law_1033 : decode cL_law 1033 = .ok (.aload_n 3, 1) := by decide +kernel
theorem dL_law_1034 : decode cL_law 1034 = .ok (.iconst 0, 1) := by decide +kernel
theorem dL_law_1035 : decode cL_law 1035 = .ok (.laload, 1) := by decide +kernel
theorem dL_law_1036 : decode cL_law 1036 = .ok (.iload 6, 2) := by decide +kernel
theorem dL_law_1038 : decode cL_law 1038 = .ok (.i2l, 1) := by decide +kernel
theorem dL_law_1039 : decode cL_law 1039 = .ok (.lcmp, 1) := by decide +kernel
theorem dL_law_1040 : decode cL_law 1040 = .ok (.ifCond .eq 5, 3) := by decide +kernel
theorem dL_law_1043 : decode cL_law 1043 = .ok (.iconst 0, 1) := by decide +kernel
theorem dL_law_1044 : decode cL_law 1044 = .ok (.ireturn, 1) := by decide +kernel
theorem dL_law_1045 : decode cL_law 1045 = .ok (.goto 3, 3) := by decide +kernel
theorem dL_law_1048 : decode cL_law 1048 = .ok (.iinc 4 7, 3) := by decide +kernel
theorem dL_law_1051 : decode cL_law 1051 = .ok (.goto (-1028), 3) := by decide +kernel
theorem dL_law_1054 : decode cL_law 1054 = .ok (.iconst 1, 1) := by decide +kernel
theorem dL_law_1055 : decode cL_law 1055 = .ok (.ireturn, 1) := by decide +kernel
abbrev vwCl : List vw_C := [(RX0, TX0, 5), (RX1, TX1, 2), (RX2, TX2, 11), (RX3, TX3, 8), (RX4, TX4, 5), (RX5, TX5, 24)]
