def RX0 : String := "CalendaryPlanner$Date"
def TX0 : u_T := fun k => match k with
  | 0 => ("CalendaryPlanner$Date", "meeting", "LCalendaryPlanner$Meeting;", true)
  | 1 => ("CalendaryPlanner$Date", "slot", "LCalendaryPlanner$Slot;", false)
  | 2 => ("CalendaryPlanner$Date", "room", "LCalendaryPlanner$Room;", false)
  | _ => ("CalendaryPlanner$Date", "cancelled", "Z", false)
def tyX0 : Nat → FieldType := fun k => match k with
  | 0 => .object "CalendaryPlanner$Meeting"
  | 1 => .object "CalendaryPlanner$Slot"
  | 2 => .object "CalendaryPlanner$Room"
  | _ => .boolean
abbrev wsX00 : List Cond := u_ws RX0 TX0 4
theorem nmX0 : ∀ a, a < 4 → ∀ b, b < 4 → a ≠ b → (TX0 a).2.1 ≠ (TX0 b).2.1 := by decide +kernel
theorem tyX0_ok : ∀ k, k < 4 → parseFieldDescriptor (TX0 k).2.2.1 = some (tyX0 k) := by decide +kernel
abbrev cX0_init : ByteArray := prog_2_method_1_code
def yX0_init : MethodName := ⟨RX0, "<init>", "(LCalendaryPlanner$Meeting;LCalendaryPlanner$Slot;LCalendaryPlanner$Room;)V"⟩
def RX1 : String := "CalendaryPlanner$Day"
def TX1 : u_T := fun k => match k with
  | _ => ("CalendaryPlanner$Day", "dates", "Ljava/util/ArrayList;", true)
def tyX1 : Nat → FieldType := fun k => match k with
  | _ => .object "java/util/ArrayList"
abbrev wsX10 : List Cond := u_ws RX1 TX1 1
theorem nmX1 : ∀ a, a < 1 → ∀ b, b < 1 → a ≠ b → (TX1 a).2.1 ≠ (TX1 b).2.1 := by decide +kernel
theorem tyX1_ok : ∀ k, k < 1 → parseFieldDescriptor (TX1 k).2.2.1 = some (tyX1 k) := by decide +kernel
abbrev cX1_init : ByteArray := prog_3_method_1_code
def yX1_init : MethodName := ⟨RX1, "<init>", "()V"⟩
abbrev cX1_take : ByteArray := prog_3_method_2_code
def yX1_take : MethodName := ⟨RX1, "take", "(LCalendaryPlanner$Date;)V"⟩
abbrev cX1_drop : ByteArray := prog_3_method_3_code
def yX1_drop : MethodName := ⟨RX1, "drop", "(LCalendaryPlanner$Date;)V"⟩
def RX2 : String := "CalendaryPlanner$Meeting"
def TX2 : u_T := fun k => match k with
  | 0 => ("CalendaryPlanner$Meeting", "number", "I", true)
  | 1 => ("CalendaryPlanner$Meeting", "host", "I", true)
  | 2 => ("CalendaryPlanner$Meeting", "asked", "I", true)
  | 3 => ("CalendaryPlanner$Meeting", "dates", "Ljava/util/ArrayList;", true)
  | 4 => ("CalendaryPlanner$Meeting", "yes", "I", false)
  | _ => ("CalendaryPlanner$Meeting", "no", "I", false)
def tyX2 : Nat → FieldType := fun k => match k with
  | 0 => .int
  | 1 => .int
  | 2 => .int
  | 3 => .object "java/util/ArrayList"
  | 4 => .int
  | _ => .int
abbrev wsX20 : List Cond := u_ws RX2 TX2 6
theorem nmX2 : ∀ a, a < 6 → ∀ b, b < 6 → a ≠ b → (TX2 a).2.1 ≠ (TX2 b).2.1 := by decide +kernel
theorem tyX2_ok : ∀ k, k < 6 → parseFieldDescriptor (TX2 k).2.2.1 = some (tyX2 k) := by decide +kernel
abbrev cX2_init : ByteArray := prog_4_method_1_code
def yX2_init : MethodName := ⟨RX2, "<init>", "(III)V"⟩
abbrev cX2_expectedPeople : ByteArray := prog_4_method_2_code
def yX2_expectedPeople : MethodName := ⟨RX2, "expectedPeople", "()I"⟩
abbrev cX2_expectedCount : ByteArray := prog_4_method_3_code
def yX2_expectedCount : MethodName := ⟨RX2, "expectedCount", "()I"⟩
abbrev cX2_expects : ByteArray := prog_4_method_4_code
def yX2_expects : MethodName := ⟨RX2, "expects", "(I)Z"⟩
abbrev cX2_answerFrom : ByteArray := prog_4_method_5_code
def yX2_answerFrom : MethodName := ⟨RX2, "answerFrom", "(I)C"⟩
abbrev cX2_note : ByteArray := prog_4_method_6_code
def yX2_note : MethodName := ⟨RX2, "note", "(IC)V"⟩
abbrev cX2_standingDates : ByteArray := prog_4_method_7_code
def yX2_standingDates : MethodName := ⟨RX2, "standingDates", "()I"⟩
abbrev cX2_standingTimes : ByteArray := prog_4_method_8_code
def yX2_standingTimes : MethodName := ⟨RX2, "standingTimes", "()I"⟩
def RX3 : String := "CalendaryPlanner$Room"
def TX3 : u_T := fun k => match k with
  | 0 => ("CalendaryPlanner$Room", "number", "I", true)
  | 1 => ("CalendaryPlanner$Room", "seats", "I", false)
  | _ => ("CalendaryPlanner$Room", "house", "I", false)
def tyX3 : Nat → FieldType := fun k => match k with
  | 0 => .int
  | 1 => .int
  | _ => .int
abbrev wsX30 : List Cond := u_ws RX3 TX3 3
theorem nmX3 : ∀ a, a < 3 → ∀ b, b < 3 → a ≠ b → (TX3 a).2.1 ≠ (TX3 b).2.1 := by decide +kernel
theorem tyX3_ok : ∀ k, k < 3 → parseFieldDescriptor (TX3 k).2.2.1 = some (tyX3 k) := by decide +kernel
abbrev cX3_init : ByteArray := prog_5_method_1_code
def yX3_init : MethodName := ⟨RX3, "<init>", "(III)V"⟩
def RX4 : String := "CalendaryPlanner$Slot"
def TX4 : u_T := fun k => match k with
  | 0 => ("CalendaryPlanner$Slot", "day", "I", false)
  | 1 => ("CalendaryPlanner$Slot", "time", "I", false)
  | _ => ("CalendaryPlanner$Slot", "length", "I", true)
def tyX4 : Nat → FieldType := fun k => match k with
  | 0 => .int
  | 1 => .int
  | _ => .int
abbrev wsX40 : List Cond := u_ws RX4 TX4 3
theorem nmX4 : ∀ a, a < 3 → ∀ b, b < 3 → a ≠ b → (TX4 a).2.1 ≠ (TX4 b).2.1 := by decide +kernel
theorem tyX4_ok : ∀ k, k < 3 → parseFieldDescriptor (TX4 k).2.2.1 = some (tyX4 k) := by decide +kernel
abbrev cX4_init : ByteArray := prog_6_method_1_code
def yX4_init : MethodName := ⟨RX4, "<init>", "(III)V"⟩
abbrev cX4_end : ByteArray := prog_6_method_2_code
def yX4_end : MethodName := ⟨RX4, "end", "()I"⟩
abbrev cX4_holds : ByteArray := prog_6_method_3_code
def yX4_holds : MethodName := ⟨RX4, "holds", "(I)Z"⟩
abbrev cX4_timesBetween : ByteArray := prog_6_method_4_code
def yX4_timesBetween : MethodName := ⟨RX4, "timesBetween", "(LCalendaryPlanner$Slot;)I"⟩
def RX5 : String := "CalendaryPlanner"
def TX5 : u_T := fun k => match k with
  | 0 => ("CalendaryPlanner", "rooms", "[LCalendaryPlanner$Room;", true)
  | 1 => ("CalendaryPlanner", "days", "[LCalendaryPlanner$Day;", true)
  | 2 => ("CalendaryPlanner", "meetings", "Ljava/util/ArrayList;", true)
  | 3 => ("CalendaryPlanner", "gap", "I", false)
  | 4 => ("CalendaryPlanner", "nextNumber", "I", false)
  | 5 => ("CalendaryPlanner", "latestReason", "I", false)
  | _ => ("CalendaryPlanner", "latestDetail", "I", false)
def tyX5 : Nat → FieldType := fun k => match k with
  | 0 => .array (.object "CalendaryPlanner$Room")
  | 1 => .array (.object "CalendaryPlanner$Day")
  | 2 => .object "java/util/ArrayList"
  | 3 => .int
  | 4 => .int
  | 5 => .int
  | _ => .int
abbrev wsX50 : List Cond := u_ws RX5 TX5 7
theorem nmX5 : ∀ a, a < 7 → ∀ b, b < 7 → a ≠ b → (TX5 a).2.1 ≠ (TX5 b).2.1 := by decide +kernel
theorem tyX5_ok : ∀ k, k < 7 → parseFieldDescriptor (TX5 k).2.2.1 = some (tyX5 k) := by decide +kernel
abbrev cX5_init : ByteArray := prog_1_method_1_code
def yX5_init : MethodName := ⟨RX5, "<init>", "()V"⟩
abbrev cX5_setRoom : ByteArray := prog_1_method_2_code
def yX5_setRoom : MethodName := ⟨RX5, "setRoom", "(III)I"⟩
abbrev cX5_setGap : ByteArray := prog_1_method_3_code
def yX5_setGap : MethodName := ⟨RX5, "setGap", "(I)I"⟩
abbrev cX5_seatsOf : ByteArray := prog_1_method_4_code
def yX5_seatsOf : MethodName := ⟨RX5, "seatsOf", "(I)I"⟩
abbrev cX5_houseOf : ByteArray := prog_1_method_5_code
def yX5_houseOf : MethodName := ⟨RX5, "houseOf", "(I)I"⟩
abbrev cX5_ask : ByteArray := prog_1_method_6_code
def yX5_ask : MethodName := ⟨RX5, "ask", "(IIIII)I"⟩
abbrev cX5_extend : ByteArray := prog_1_method_7_code
def yX5_extend : MethodName := ⟨RX5, "extend", "(III)I"⟩
abbrev cX5_remove : ByteArray := prog_1_method_8_code
def yX5_remove : MethodName := ⟨RX5, "remove", "(I)I"⟩
abbrev cX5_answer : ByteArray := prog_1_method_9_code
def yX5_answer : MethodName := ⟨RX5, "answer", "(IIC)C"⟩
abbrev cX5_cancel : ByteArray := prog_1_method_10_code
def yX5_cancel : MethodName := ⟨RX5, "cancel", "(II)I"⟩
abbrev cX5_move : ByteArray := prog_1_method_11_code
def yX5_move : MethodName := ⟨RX5, "move", "(IIII)I"⟩
abbrev cX5_meetingCount : ByteArray := prog_1_method_12_code
def yX5_meetingCount : MethodName := ⟨RX5, "meetingCount", "()I"⟩
abbrev cX5_meetingAt : ByteArray := prog_1_method_13_code
def yX5_meetingAt : MethodName := ⟨RX5, "meetingAt", "(I)I"⟩
abbrev cX5_hostOf : ByteArray := prog_1_method_14_code
def yX5_hostOf : MethodName := ⟨RX5, "hostOf", "(I)I"⟩
abbrev cX5_answerOf : ByteArray := prog_1_method_15_code
def yX5_answerOf : MethodName := ⟨RX5, "answerOf", "(II)C"⟩
abbrev cX5_expected : ByteArray := prog_1_method_16_code
def yX5_expected : MethodName := ⟨RX5, "expected", "(I)I"⟩
abbrev cX5_dateCount : ByteArray := prog_1_method_17_code
def yX5_dateCount : MethodName := ⟨RX5, "dateCount", "(I)I"⟩
abbrev cX5_dayOf : ByteArray := prog_1_method_18_code
def yX5_dayOf : MethodName := ⟨RX5, "dayOf", "(II)I"⟩
abbrev cX5_timeOf : ByteArray := prog_1_method_19_code
def yX5_timeOf : MethodName := ⟨RX5, "timeOf", "(II)I"⟩
abbrev cX5_isCancelled : ByteArray := prog_1_method_20_code
def yX5_isCancelled : MethodName := ⟨RX5, "isCancelled", "(II)Z"⟩
abbrev cX5_roomOf : ByteArray := prog_1_method_21_code
def yX5_roomOf : MethodName := ⟨RX5, "roomOf", "(II)I"⟩
abbrev cX5_refusalReason : ByteArray := prog_1_method_22_code
def yX5_refusalReason : MethodName := ⟨RX5, "refusalReason", "()I"⟩
abbrev cX5_refusalDetail : ByteArray := prog_1_method_23_code
def yX5_refusalDetail : MethodName := ⟨RX5, "refusalDetail", "()I"⟩
abbrev cX5_isFree : ByteArray := prog_1_method_24_code
def yX5_isFree : MethodName := ⟨RX5, "isFree", "(III)Z"⟩
abbrev cX5_meetingOf : ByteArray := prog_1_method_25_code
def yX5_meetingOf : MethodName := ⟨RX5, "meetingOf", "(III)I"⟩
abbrev cX5_freeTimes : ByteArray := prog_1_method_26_code
def yX5_freeTimes : MethodName := ⟨RX5, "freeTimes", "(II)I"⟩
abbrev cX5_freeByTrying : ByteArray := prog_1_method_27_code
def yX5_freeByTrying : MethodName := ⟨RX5, "freeByTrying", "(II)I"⟩
abbrev cX5_longestFree : ByteArray := prog_1_method_28_code
def yX5_longestFree : MethodName := ⟨RX5, "longestFree", "(II)I"⟩
abbrev cX5_firstCommon : ByteArray := prog_1_method_29_code
def yX5_firstCommon : MethodName := ⟨RX5, "firstCommon", "(III)I"⟩
abbrev cX5_commonCount : ByteArray := prog_1_method_30_code
def yX5_commonCount : MethodName := ⟨RX5, "commonCount", "(III)I"⟩
abbrev cX5_roomFor : ByteArray := prog_1_method_31_code
def yX5_roomFor : MethodName := ⟨RX5, "roomFor", "(IIII)I"⟩
abbrev cX5_usedTimes : ByteArray := prog_1_method_32_code
def yX5_usedTimes : MethodName := ⟨RX5, "usedTimes", "(II)I"⟩
abbrev cX5_walks : ByteArray := prog_1_method_33_code
def yX5_walks : MethodName := ⟨RX5, "walks", "(II)I"⟩
abbrev cX5_sittings : ByteArray := prog_1_method_34_code
def yX5_sittings : MethodName := ⟨RX5, "sittings", "()J"⟩
abbrev cX5_meanExpected : ByteArray := prog_1_method_35_code
def yX5_meanExpected : MethodName := ⟨RX5, "meanExpected", "()D"⟩
abbrev cX5_yesShare : ByteArray := prog_1_method_36_code
def yX5_yesShare : MethodName := ⟨RX5, "yesShare", "()F"⟩
abbrev cX5_isConsistent : ByteArray := prog_1_method_37_code
def yX5_isConsistent : MethodName := ⟨RX5, "isConsistent", "()Z"⟩
abbrev cX5_requireWithin : ByteArray := prog_1_method_38_code
def yX5_requireWithin : MethodName := ⟨RX5, "requireWithin", "(III)V"⟩
abbrev cX5_requirePerson : ByteArray := prog_1_method_39_code
def yX5_requirePerson : MethodName := ⟨RX5, "requirePerson", "(I)V"⟩
abbrev cX5_requireDay : ByteArray := prog_1_method_40_code
def yX5_requireDay : MethodName := ⟨RX5, "requireDay", "(I)V"⟩
abbrev cX5_requireSlot : ByteArray := prog_1_method_41_code
def yX5_requireSlot : MethodName := ⟨RX5, "requireSlot", "(III)V"⟩
abbrev cX5_requireRefusal : ByteArray := prog_1_method_42_code
def yX5_requireRefusal : MethodName := ⟨RX5, "requireRefusal", "()V"⟩
abbrev cX5_roomWith : ByteArray := prog_1_method_43_code
def yX5_roomWith : MethodName := ⟨RX5, "roomWith", "(I)LCalendaryPlanner$Room;"⟩
abbrev cX5_dayWith : ByteArray := prog_1_method_44_code
def yX5_dayWith : MethodName := ⟨RX5, "dayWith", "(I)LCalendaryPlanner$Day;"⟩
abbrev cX5_rankOf : ByteArray := prog_1_method_45_code
def yX5_rankOf : MethodName := ⟨RX5, "rankOf", "(I)I"⟩
abbrev cX5_meetingWith : ByteArray := prog_1_method_46_code
def yX5_meetingWith : MethodName := ⟨RX5, "meetingWith", "(I)LCalendaryPlanner$Meeting;"⟩
abbrev cX5_dateWith : ByteArray := prog_1_method_47_code
def yX5_dateWith : MethodName := ⟨RX5, "dateWith", "(LCalendaryPlanner$Meeting;I)LCalendaryPlanner$Date;"⟩
abbrev cX5_standingDateWith : ByteArray := prog_1_method_48_code
def yX5_standingDateWith : MethodName := ⟨RX5, "standingDateWith", "(LCalendaryPlanner$Meeting;I)LCalendaryPlanner$Date;"⟩
abbrev cX5_bitOf : ByteArray := prog_1_method_49_code
def yX5_bitOf : MethodName := ⟨RX5, "bitOf", "(I)I"⟩
abbrev cX5_holdsPerson : ByteArray := prog_1_method_50_code
def yX5_holdsPerson : MethodName := ⟨RX5, "holdsPerson", "(II)Z"⟩
abbrev cX5_lowestPerson : ByteArray := prog_1_method_51_code
def yX5_lowestPerson : MethodName := ⟨RX5, "lowestPerson", "(I)I"⟩
abbrev cX5_planDates : ByteArray := prog_1_method_52_code
def yX5_planDates : MethodName := ⟨RX5, "planDates", "(LCalendaryPlanner$Meeting;Ljava/util/ArrayList;)V"⟩
abbrev cX5_putOnItsDay : ByteArray := prog_1_method_53_code
def yX5_putOnItsDay : MethodName := ⟨RX5, "putOnItsDay", "(LCalendaryPlanner$Date;)V"⟩
abbrev cX5_takeOffItsDay : ByteArray := prog_1_method_54_code
def yX5_takeOffItsDay : MethodName := ⟨RX5, "takeOffItsDay", "(LCalendaryPlanner$Date;)V"⟩
abbrev cX5_noteRefusal : ByteArray := prog_1_method_55_code
def yX5_noteRefusal : MethodName := ⟨RX5, "noteRefusal", "(II)V"⟩
abbrev cX5_requireNobodyBusy : ByteArray := prog_1_method_56_code
def yX5_requireNobodyBusy : MethodName := ⟨RX5, "requireNobodyBusy", "(LCalendaryPlanner$Meeting;LCalendaryPlanner$Slot;LCalendaryPlanner$Date;)V"⟩
abbrev cX5_requireRoom : ByteArray := prog_1_method_57_code
def yX5_requireRoom : MethodName := ⟨RX5, "requireRoom", "(LCalendaryPlanner$Meeting;ILCalendaryPlanner$Slot;LCalendaryPlanner$Date;)LCalendaryPlanner$Room;"⟩
abbrev cX5_requireSeatsLeft : ByteArray := prog_1_method_58_code
def yX5_requireSeatsLeft : MethodName := ⟨RX5, "requireSeatsLeft", "(LCalendaryPlanner$Meeting;)V"⟩
abbrev cX5_requireNoClashFor : ByteArray := prog_1_method_59_code
def yX5_requireNoClashFor : MethodName := ⟨RX5, "requireNoClashFor", "(ILCalendaryPlanner$Meeting;)V"⟩
abbrev cX5_busyPeople : ByteArray := prog_1_method_60_code
def yX5_busyPeople : MethodName := ⟨RX5, "busyPeople", "(LCalendaryPlanner$Slot;LCalendaryPlanner$Date;)I"⟩
abbrev cX5_bestRoom : ByteArray := prog_1_method_61_code
def yX5_bestRoom : MethodName := ⟨RX5, "bestRoom", "(ILCalendaryPlanner$Slot;LCalendaryPlanner$Date;)LCalendaryPlanner$Room;"⟩
abbrev cX5_isTaken : ByteArray := prog_1_method_62_code
def yX5_isTaken : MethodName := ⟨RX5, "isTaken", "(LCalendaryPlanner$Room;LCalendaryPlanner$Slot;LCalendaryPlanner$Date;)Z"⟩
abbrev cX5_wouldClash : ByteArray := prog_1_method_63_code
def yX5_wouldClash : MethodName := ⟨RX5, "wouldClash", "(ILCalendaryPlanner$Meeting;LCalendaryPlanner$Slot;LCalendaryPlanner$Room;LCalendaryPlanner$Date;)Z"⟩
abbrev cX5_dateOfPersonAt : ByteArray := prog_1_method_64_code
def yX5_dateOfPersonAt : MethodName := ⟨RX5, "dateOfPersonAt", "(III)LCalendaryPlanner$Date;"⟩
abbrev cX5_countFreeBySweep : ByteArray := prog_1_method_65_code
def yX5_countFreeBySweep : MethodName := ⟨RX5, "countFreeBySweep", "(II)I"⟩
abbrev cX5_countFreeByTrying : ByteArray := prog_1_method_66_code
def yX5_countFreeByTrying : MethodName := ⟨RX5, "countFreeByTrying", "(II)I"⟩
abbrev cX5_commonRoom : ByteArray := prog_1_method_67_code
def yX5_commonRoom : MethodName := ⟨RX5, "commonRoom", "(ILCalendaryPlanner$Slot;)LCalendaryPlanner$Room;"⟩
abbrev cX5_hasDoubleUse : ByteArray := prog_1_method_68_code
def yX5_hasDoubleUse : MethodName := ⟨RX5, "hasDoubleUse", "(I)Z"⟩
abbrev cX5_countsAgree : ByteArray := prog_1_method_69_code
def yX5_countsAgree : MethodName := ⟨RX5, "countsAgree", "(I)Z"⟩
def RX6 : String := "CalendaryPlannerModel"
def TX6 : u_T := fun k => match k with
  | 0 => ("CalendaryPlannerModel", "g", "[I", true)
  | 1 => ("CalendaryPlannerModel", "code", "I", false)
  | 2 => ("CalendaryPlannerModel", "withoutMeeting", "I", false)
  | 3 => ("CalendaryPlannerModel", "withoutDate", "I", false)
  | _ => ("CalendaryPlannerModel", "rooms", "[I", true)
def tyX6 : Nat → FieldType := fun k => match k with
  | 0 => .array .int
  | 1 => .int
  | 2 => .int
  | 3 => .int
  | _ => .array .int
abbrev wsX60 : List Cond := u_ws RX6 TX6 5
theorem nmX6 : ∀ a, a < 5 → ∀ b, b < 5 → a ≠ b → (TX6 a).2.1 ≠ (TX6 b).2.1 := by decide +kernel
theorem tyX6_ok : ∀ k, k < 5 → parseFieldDescriptor (TX6 k).2.2.1 = some (tyX6 k) := by decide +kernel
abbrev cX6_init : ByteArray := prog_8_method_1_code
def yX6_init : MethodName := ⟨RX6, "<init>", "()V"⟩
abbrev cX6_thrown : ByteArray := prog_8_method_2_code
def yX6_thrown : MethodName := ⟨RX6, "thrown", "()I"⟩
abbrev cX6_fails : ByteArray := prog_8_method_3_code
def yX6_fails : MethodName := ⟨RX6, "fails", "(I)Z"⟩
abbrev cX6_in : ByteArray := prog_8_method_4_code
def yX6_in : MethodName := ⟨RX6, "in", "(III)Z"⟩
abbrev cX6_isRoom : ByteArray := prog_8_method_5_code
def yX6_isRoom : MethodName := ⟨RX6, "isRoom", "(I)Z"⟩
abbrev cX6_isPerson : ByteArray := prog_8_method_6_code
def yX6_isPerson : MethodName := ⟨RX6, "isPerson", "(I)Z"⟩
abbrev cX6_isDay : ByteArray := prog_8_method_7_code
def yX6_isDay : MethodName := ⟨RX6, "isDay", "(I)Z"⟩
abbrev cX6_isTime : ByteArray := prog_8_method_8_code
def yX6_isTime : MethodName := ⟨RX6, "isTime", "(I)Z"⟩
abbrev cX6_setRoom : ByteArray := prog_8_method_9_code
def yX6_setRoom : MethodName := ⟨RX6, "setRoom", "(III)I"⟩
abbrev cX6_setGap : ByteArray := prog_8_method_10_code
def yX6_setGap : MethodName := ⟨RX6, "setGap", "(I)I"⟩
abbrev cX6_seatsOf : ByteArray := prog_8_method_11_code
def yX6_seatsOf : MethodName := ⟨RX6, "seatsOf", "(I)I"⟩
abbrev cX6_houseOf : ByteArray := prog_8_method_12_code
def yX6_houseOf : MethodName := ⟨RX6, "houseOf", "(I)I"⟩
abbrev cX6_of : ByteArray := prog_8_method_13_code
def yX6_of : MethodName := ⟨RX6, "of", "(II)I"⟩
abbrev cX6_lays : ByteArray := prog_8_method_14_code
def yX6_lays : MethodName := ⟨RX6, "lays", "(III)V"⟩
abbrev cX6_date : ByteArray := prog_8_method_15_code
def yX6_date : MethodName := ⟨RX6, "date", "(III)I"⟩
abbrev cX6_at : ByteArray := prog_8_method_16_code
def yX6_at : MethodName := ⟨RX6, "at", "(I)I"⟩
abbrev cX6_isExpected : ByteArray := prog_8_method_17_code
def yX6_isExpected : MethodName := ⟨RX6, "isExpected", "(II)Z"⟩
abbrev cX6_people : ByteArray := prog_8_method_18_code
def yX6_people : MethodName := ⟨RX6, "people", "(I)I"⟩
abbrev cX6_many : ByteArray := prog_8_method_19_code
def yX6_many : MethodName := ⟨RX6, "many", "(I)I"⟩
abbrev cX6_isOn : ByteArray := prog_8_method_20_code
def yX6_isOn : MethodName := ⟨RX6, "isOn", "(II)Z"⟩
abbrev cX6_between : ByteArray := prog_8_method_21_code
def yX6_between : MethodName := ⟨RX6, "between", "(IIII)I"⟩
abbrev cX6_counts : ByteArray := prog_8_method_22_code
def yX6_counts : MethodName := ⟨RX6, "counts", "(III)Z"⟩
abbrev cX6_busy : ByteArray := prog_8_method_23_code
def yX6_busy : MethodName := ⟨RX6, "busy", "(IIII)I"⟩
abbrev cX6_fits : ByteArray := prog_8_method_24_code
def yX6_fits : MethodName := ⟨RX6, "fits", "(IIIII)Z"⟩
abbrev cX6_smallest : ByteArray := prog_8_method_25_code
def yX6_smallest : MethodName := ⟨RX6, "smallest", "(IIII)I"⟩
abbrev cX6_refuses : ByteArray := prog_8_method_26_code
def yX6_refuses : MethodName := ⟨RX6, "refuses", "(III)Z"⟩
abbrev cX6_dates : ByteArray := prog_8_method_27_code
def yX6_dates : MethodName := ⟨RX6, "dates", "(IIIII)V"⟩
abbrev cX6_ask : ByteArray := prog_8_method_28_code
def yX6_ask : MethodName := ⟨RX6, "ask", "(IIIII)I"⟩
abbrev cX6_extend : ByteArray := prog_8_method_29_code
def yX6_extend : MethodName := ⟨RX6, "extend", "(III)I"⟩
abbrev cX6_isNone : ByteArray := prog_8_method_30_code
def yX6_isNone : MethodName := ⟨RX6, "isNone", "(I)Z"⟩
abbrev cX6_isNoDate : ByteArray := prog_8_method_31_code
def yX6_isNoDate : MethodName := ⟨RX6, "isNoDate", "(II)Z"⟩
abbrev cX6_remove : ByteArray := prog_8_method_32_code
def yX6_remove : MethodName := ⟨RX6, "remove", "(I)I"⟩
abbrev cX6_isKeptOut : ByteArray := prog_8_method_33_code
def yX6_isKeptOut : MethodName := ⟨RX6, "isKeptOut", "(II)Z"⟩
abbrev cX6_clashes : ByteArray := prog_8_method_34_code
def yX6_clashes : MethodName := ⟨RX6, "clashes", "(III)Z"⟩
abbrev cX6_answer : ByteArray := prog_8_method_35_code
def yX6_answer : MethodName := ⟨RX6, "answer", "(IIC)C"⟩
abbrev cX6_cancel : ByteArray := prog_8_method_36_code
def yX6_cancel : MethodName := ⟨RX6, "cancel", "(II)I"⟩
abbrev cX6_move : ByteArray := prog_8_method_37_code
def yX6_move : MethodName := ⟨RX6, "move", "(IIII)I"⟩
abbrev cX6_meetingCount : ByteArray := prog_8_method_38_code
def yX6_meetingCount : MethodName := ⟨RX6, "meetingCount", "()I"⟩
abbrev cX6_meetingAt : ByteArray := prog_8_method_39_code
def yX6_meetingAt : MethodName := ⟨RX6, "meetingAt", "(I)I"⟩
abbrev cX6_hostOf : ByteArray := prog_8_method_40_code
def yX6_hostOf : MethodName := ⟨RX6, "hostOf", "(I)I"⟩
abbrev cX6_answerOf : ByteArray := prog_8_method_41_code
def yX6_answerOf : MethodName := ⟨RX6, "answerOf", "(II)C"⟩
abbrev cX6_expected : ByteArray := prog_8_method_42_code
def yX6_expected : MethodName := ⟨RX6, "expected", "(I)I"⟩
abbrev cX6_dateCount : ByteArray := prog_8_method_43_code
def yX6_dateCount : MethodName := ⟨RX6, "dateCount", "(I)I"⟩
abbrev cX6_dayOf : ByteArray := prog_8_method_44_code
def yX6_dayOf : MethodName := ⟨RX6, "dayOf", "(II)I"⟩
abbrev cX6_timeOf : ByteArray := prog_8_method_45_code
def yX6_timeOf : MethodName := ⟨RX6, "timeOf", "(II)I"⟩
abbrev cX6_isCancelled : ByteArray := prog_8_method_46_code
def yX6_isCancelled : MethodName := ⟨RX6, "isCancelled", "(II)Z"⟩
abbrev cX6_roomOf : ByteArray := prog_8_method_47_code
def yX6_roomOf : MethodName := ⟨RX6, "roomOf", "(II)I"⟩
abbrev cX6_refusalReason : ByteArray := prog_8_method_48_code
def yX6_refusalReason : MethodName := ⟨RX6, "refusalReason", "()I"⟩
abbrev cX6_refusalDetail : ByteArray := prog_8_method_49_code
def yX6_refusalDetail : MethodName := ⟨RX6, "refusalDetail", "()I"⟩
abbrev cX6_isFreeAt : ByteArray := prog_8_method_50_code
def yX6_isFreeAt : MethodName := ⟨RX6, "isFreeAt", "(III)Z"⟩
abbrev cX6_isNoTime : ByteArray := prog_8_method_51_code
def yX6_isNoTime : MethodName := ⟨RX6, "isNoTime", "(III)Z"⟩
abbrev cX6_isFree : ByteArray := prog_8_method_52_code
def yX6_isFree : MethodName := ⟨RX6, "isFree", "(III)Z"⟩
abbrev cX6_meetingOf : ByteArray := prog_8_method_53_code
def yX6_meetingOf : MethodName := ⟨RX6, "meetingOf", "(III)I"⟩
abbrev cX6_frees : ByteArray := prog_8_method_54_code
def yX6_frees : MethodName := ⟨RX6, "frees", "(II)I"⟩
abbrev cX6_freeTimes : ByteArray := prog_8_method_55_code
def yX6_freeTimes : MethodName := ⟨RX6, "freeTimes", "(II)I"⟩
abbrev cX6_freeByTrying : ByteArray := prog_8_method_56_code
def yX6_freeByTrying : MethodName := ⟨RX6, "freeByTrying", "(II)I"⟩
abbrev cX6_longestFree : ByteArray := prog_8_method_57_code
def yX6_longestFree : MethodName := ⟨RX6, "longestFree", "(II)I"⟩
abbrev cX6_isNoPlan : ByteArray := prog_8_method_58_code
def yX6_isNoPlan : MethodName := ⟨RX6, "isNoPlan", "(III)Z"⟩
abbrev cX6_roomFound : ByteArray := prog_8_method_59_code
def yX6_roomFound : MethodName := ⟨RX6, "roomFound", "(IIII)I"⟩
abbrev cX6_firstCommon : ByteArray := prog_8_method_60_code
def yX6_firstCommon : MethodName := ⟨RX6, "firstCommon", "(III)I"⟩
abbrev cX6_commonCount : ByteArray := prog_8_method_61_code
def yX6_commonCount : MethodName := ⟨RX6, "commonCount", "(III)I"⟩
abbrev cX6_roomFor : ByteArray := prog_8_method_62_code
def yX6_roomFor : MethodName := ⟨RX6, "roomFor", "(IIII)I"⟩
abbrev cX6_usedTimes : ByteArray := prog_8_method_63_code
def yX6_usedTimes : MethodName := ⟨RX6, "usedTimes", "(II)I"⟩
abbrev cX6_walks : ByteArray := prog_8_method_64_code
def yX6_walks : MethodName := ⟨RX6, "walks", "(II)I"⟩
abbrev cX6_sittings : ByteArray := prog_8_method_65_code
def yX6_sittings : MethodName := ⟨RX6, "sittings", "()J"⟩
abbrev cX6_meanExpected : ByteArray := prog_8_method_66_code
def yX6_meanExpected : MethodName := ⟨RX6, "meanExpected", "()D"⟩
abbrev cX6_yesShare : ByteArray := prog_8_method_67_code
def yX6_yesShare : MethodName := ⟨RX6, "yesShare", "()F"⟩
abbrev cX6_isConsistent : ByteArray := prog_8_method_68_code
def yX6_isConsistent : MethodName := ⟨RX6, "isConsistent", "()Z"⟩
abbrev cX6_meetsItself : ByteArray := prog_8_method_69_code
def yX6_meetsItself : MethodName := ⟨RX6, "meetsItself", "(III)Z"⟩
def RJx145de : String := "java/io/Serializable"
def TJx145de : u_T := fun k => match k with
  | _ => ("", "", "", false)
def tyJx145de : Nat → FieldType := fun k => match k with
  | _ => .int
abbrev wsJx145de0 : List Cond := u_ws RJx145de TJx145de 0
theorem nmJx145de : ∀ a, a < 0 → ∀ b, b < 0 → a ≠ b → (TJx145de a).2.1 ≠ (TJx145de b).2.1 := by decide +kernel
theorem tyJx145de_ok : ∀ k, k < 0 → parseFieldDescriptor (TJx145de k).2.2.1 = some (tyJx145de k) := by decide +kernel
def RJ5 : String := "java/lang/AbstractStringBuilder"
def TJ5 : u_T := fun k => match k with
  | _ => ("", "", "", false)
def tyJ5 : Nat → FieldType := fun k => match k with
  | _ => .int
abbrev wsJ50 : List Cond := u_ws RJ5 TJ5 0
theorem nmJ5 : ∀ a, a < 0 → ∀ b, b < 0 → a ≠ b → (TJ5 a).2.1 ≠ (TJ5 b).2.1 := by decide +kernel
theorem tyJ5_ok : ∀ k, k < 0 → parseFieldDescriptor (TJ5 k).2.2.1 = some (tyJ5 k) := by decide +kernel
abbrev cJ5_init_d00df : ByteArray := prog_10_method_2_code
def yJ5_init_d00df : MethodName := ⟨RJ5, "<init>", "(I)V"⟩
abbrev cJ5_length_8abf5 : ByteArray := prog_10_method_6_code
def yJ5_length_8abf5 : MethodName := ⟨RJ5, "length", "()I"⟩
abbrev cJ5_ensureCapacityInternal_d00df : ByteArray := prog_10_method_9_code
def yJ5_ensureCapacityInternal_d00df : MethodName := ⟨RJ5, "ensureCapacityInternal", "(I)V"⟩
abbrev cJ5_newCapacity_0f7a4 : ByteArray := prog_10_method_10_code
def yJ5_newCapacity_0f7a4 : MethodName := ⟨RJ5, "newCapacity", "(I)I"⟩
abbrev cJ5_inflate_da8c8 : ByteArray := prog_10_method_11_code
def yJ5_inflate_da8c8 : MethodName := ⟨RJ5, "inflate", "()V"⟩
abbrev cJ5_append_cf1ce : ByteArray := prog_10_method_22_code
def yJ5_append_cf1ce : MethodName := ⟨RJ5, "append", "(Ljava/lang/String;)Ljava/lang/AbstractStringBuilder;"⟩
abbrev cJ5_appendNull_278bc : ByteArray := prog_10_method_26_code
def yJ5_appendNull_278bc : MethodName := ⟨RJ5, "appendNull", "()Ljava/lang/AbstractStringBuilder;"⟩
abbrev cJ5_append_c97b9 : ByteArray := prog_10_method_32_code
def yJ5_append_c97b9 : MethodName := ⟨RJ5, "append", "(I)Ljava/lang/AbstractStringBuilder;"⟩
abbrev cJ5_getValue_6d5f1 : ByteArray := prog_10_method_64_code
def yJ5_getValue_6d5f1 : MethodName := ⟨RJ5, "getValue", "()[B"⟩
abbrev cJ5_isLatin1_aae02 : ByteArray := prog_10_method_68_code
def yJ5_isLatin1_aae02 : MethodName := ⟨RJ5, "isLatin1", "()Z"⟩
abbrev cJ5_inflateIfNeededFor_a7421 : ByteArray := prog_10_method_71_code
def yJ5_inflateIfNeededFor_a7421 : MethodName := ⟨RJ5, "inflateIfNeededFor", "(Ljava/lang/String;)V"⟩
abbrev cJ5_putStringAt_47b60 : ByteArray := prog_10_method_73_code
def yJ5_putStringAt_47b60 : MethodName := ⟨RJ5, "putStringAt", "(ILjava/lang/String;)V"⟩
def RJx2cfe8 : String := "java/lang/Appendable"
def TJx2cfe8 : u_T := fun k => match k with
  | _ => ("", "", "", false)
def tyJx2cfe8 : Nat → FieldType := fun k => match k with
  | _ => .int
abbrev wsJx2cfe80 : List Cond := u_ws RJx2cfe8 TJx2cfe8 0
theorem nmJx2cfe8 : ∀ a, a < 0 → ∀ b, b < 0 → a ≠ b → (TJx2cfe8 a).2.1 ≠ (TJx2cfe8 b).2.1 := by decide +kernel
theorem tyJx2cfe8_ok : ∀ k, k < 0 → parseFieldDescriptor (TJx2cfe8 k).2.2.1 = some (tyJx2cfe8 k) := by decide +kernel
def RJx00060 : String := "java/lang/ArrayIndexOutOfBoundsException"
def TJx00060 : u_T := fun k => match k with
  | 0 => ("java/lang/Throwable", "backtrace", "Ljava/lang/Object;", false)
  | 1 => ("java/lang/Throwable", "detailMessage", "Ljava/lang/String;", false)
  | 2 => ("java/lang/Throwable", "cause", "Ljava/lang/Throwable;", false)
  | 3 => ("java/lang/Throwable", "stackTrace", "[Ljava/lang/StackTraceElement;", false)
  | 4 => ("java/lang/Throwable", "depth", "I", false)
  | _ => ("java/lang/Throwable", "suppressedExceptions", "Ljava/util/List;", false)
def tyJx00060 : Nat → FieldType := fun k => match k with
  | 0 => .object "java/lang/Object"
  | 1 => .object "java/lang/String"
  | 2 => .object "java/lang/Throwable"
  | 3 => .array (.object "java/lang/StackTraceElement")
  | 4 => .int
  | _ => .object "java/util/List"
abbrev wsJx000600 : List Cond := u_ws RJx00060 TJx00060 6
theorem nmJx00060 : ∀ a, a < 6 → ∀ b, b < 6 → a ≠ b → (TJx00060 a).2.1 ≠ (TJx00060 b).2.1 := by decide +kernel
theorem tyJx00060_ok : ∀ k, k < 6 → parseFieldDescriptor (TJx00060 k).2.2.1 = some (tyJx00060 k) := by decide +kernel
abbrev cJx00060_init_a7421 : ByteArray := prog_13_method_2_code
def yJx00060_init_a7421 : MethodName := ⟨RJx00060, "<init>", "(Ljava/lang/String;)V"⟩
def RJx9f9b0 : String := "java/lang/CharSequence"
def TJx9f9b0 : u_T := fun k => match k with
  | _ => ("", "", "", false)
def tyJx9f9b0 : Nat → FieldType := fun k => match k with
  | _ => .int
abbrev wsJx9f9b00 : List Cond := u_ws RJx9f9b0 TJx9f9b0 0
theorem nmJx9f9b0 : ∀ a, a < 0 → ∀ b, b < 0 → a ≠ b → (TJx9f9b0 a).2.1 ≠ (TJx9f9b0 b).2.1 := by decide +kernel
theorem tyJx9f9b0_ok : ∀ k, k < 0 → parseFieldDescriptor (TJx9f9b0 k).2.2.1 = some (tyJx9f9b0 k) := by decide +kernel
def RJx8e188 : String := "java/lang/Cloneable"
def TJx8e188 : u_T := fun k => match k with
  | _ => ("", "", "", false)
def tyJx8e188 : Nat → FieldType := fun k => match k with
  | _ => .int
abbrev wsJx8e1880 : List Cond := u_ws RJx8e188 TJx8e188 0
theorem nmJx8e188 : ∀ a, a < 0 → ∀ b, b < 0 → a ≠ b → (TJx8e188 a).2.1 ≠ (TJx8e188 b).2.1 := by decide +kernel
theorem tyJx8e188_ok : ∀ k, k < 0 → parseFieldDescriptor (TJx8e188 k).2.2.1 = some (tyJx8e188 k) := by decide +kernel
def RJxb160c : String := "java/lang/Comparable"
def TJxb160c : u_T := fun k => match k with
  | _ => ("", "", "", false)
def tyJxb160c : Nat → FieldType := fun k => match k with
  | _ => .int
abbrev wsJxb160c0 : List Cond := u_ws RJxb160c TJxb160c 0
theorem nmJxb160c : ∀ a, a < 0 → ∀ b, b < 0 → a ≠ b → (TJxb160c a).2.1 ≠ (TJxb160c b).2.1 := by decide +kernel
theorem tyJxb160c_ok : ∀ k, k < 0 → parseFieldDescriptor (TJxb160c k).2.2.1 = some (tyJxb160c k) := by decide +kernel
def RJ6 : String := "java/lang/Integer"
def TJ6 : u_T := fun k => match k with
  | _ => ("", "", "", false)
def tyJ6 : Nat → FieldType := fun k => match k with
  | _ => .int
abbrev wsJ60 : List Cond := u_ws RJ6 TJ6 0
theorem nmJ6 : ∀ a, a < 0 → ∀ b, b < 0 → a ≠ b → (TJ6 a).2.1 ≠ (TJ6 b).2.1 := by decide +kernel
theorem tyJ6_ok : ∀ k, k < 0 → parseFieldDescriptor (TJ6 k).2.2.1 = some (tyJ6 k) := by decide +kernel
abbrev cJ6_getChars_ba4f3 : ByteArray := prog_21_method_12_code
def yJ6_getChars_ba4f3 : MethodName := ⟨RJ6, "getChars", "(II[B)I"⟩
abbrev cJ6_stringSize_0f7a4 : ByteArray := prog_21_method_13_code
def yJ6_stringSize_0f7a4 : MethodName := ⟨RJ6, "stringSize", "(I)I"⟩
abbrev cJ6_bitCount_0f7a4 : ByteArray := prog_21_method_49_code
def yJ6_bitCount_0f7a4 : MethodName := ⟨RJ6, "bitCount", "(I)I"⟩
def RJxab1ab : String := "java/lang/Iterable"
def TJxab1ab : u_T := fun k => match k with
  | _ => ("", "", "", false)
def tyJxab1ab : Nat → FieldType := fun k => match k with
  | _ => .int
abbrev wsJxab1ab0 : List Cond := u_ws RJxab1ab TJxab1ab 0
theorem nmJxab1ab : ∀ a, a < 0 → ∀ b, b < 0 → a ≠ b → (TJxab1ab a).2.1 ≠ (TJxab1ab b).2.1 := by decide +kernel
theorem tyJxab1ab_ok : ∀ k, k < 0 → parseFieldDescriptor (TJxab1ab k).2.2.1 = some (tyJxab1ab k) := by decide +kernel
def RJ9 : String := "java/lang/Math"
def TJ9 : u_T := fun k => match k with
  | _ => ("", "", "", false)
def tyJ9 : Nat → FieldType := fun k => match k with
  | _ => .int
abbrev wsJ90 : List Cond := u_ws RJ9 TJ9 0
theorem nmJ9 : ∀ a, a < 0 → ∀ b, b < 0 → a ≠ b → (TJ9 a).2.1 ≠ (TJ9 b).2.1 := by decide +kernel
theorem tyJ9_ok : ∀ k, k < 0 → parseFieldDescriptor (TJ9 k).2.2.1 = some (tyJ9 k) := by decide +kernel
abbrev cJ9_max_7cf53 : ByteArray := prog_23_method_65_code
def yJ9_max_7cf53 : MethodName := ⟨RJ9, "max", "(II)I"⟩
abbrev cJ9_min_7cf53 : ByteArray := prog_23_method_69_code
def yJ9_min_7cf53 : MethodName := ⟨RJ9, "min", "(II)I"⟩
def RJxd2413 : String := "java/lang/Number"
def TJxd2413 : u_T := fun k => match k with
  | _ => ("", "", "", false)
def tyJxd2413 : Nat → FieldType := fun k => match k with
  | _ => .int
abbrev wsJxd24130 : List Cond := u_ws RJxd2413 TJxd2413 0
theorem nmJxd2413 : ∀ a, a < 0 → ∀ b, b < 0 → a ≠ b → (TJxd2413 a).2.1 ≠ (TJxd2413 b).2.1 := by decide +kernel
theorem tyJxd2413_ok : ∀ k, k < 0 → parseFieldDescriptor (TJxd2413 k).2.2.1 = some (tyJxd2413 k) := by decide +kernel
def RJ0 : String := "java/lang/String"
def TJ0 : u_T := fun k => match k with
  | 0 => ("java/lang/String", "value", "[B", true)
  | 1 => ("java/lang/String", "coder", "B", true)
  | 2 => ("java/lang/String", "hash", "I", false)
  | _ => ("java/lang/String", "hashIsZero", "Z", false)
def tyJ0 : Nat → FieldType := fun k => match k with
  | 0 => .array .byte
  | 1 => .byte
  | 2 => .int
  | _ => .boolean
abbrev wsJ00 : List Cond := u_ws RJ0 TJ0 4
theorem nmJ0 : ∀ a, a < 4 → ∀ b, b < 4 → a ≠ b → (TJ0 a).2.1 ≠ (TJ0 b).2.1 := by decide +kernel
theorem tyJ0_ok : ∀ k, k < 4 → parseFieldDescriptor (TJ0 k).2.2.1 = some (tyJ0 k) := by decide +kernel
abbrev cJ0_init_81219 : ByteArray := prog_26_method_53_code
def yJ0_init_81219 : MethodName := ⟨RJ0, "<init>", "(Ljava/lang/StringBuilder;)V"⟩
abbrev cJ0_length_8abf5 : ByteArray := prog_26_method_54_code
def yJ0_length_8abf5 : MethodName := ⟨RJ0, "length", "()I"⟩
abbrev cJ0_getBytes_840e7 : ByteArray := prog_26_method_147_code
def yJ0_getBytes_840e7 : MethodName := ⟨RJ0, "getBytes", "([BIB)V"⟩
abbrev cJ0_init_db425 : ByteArray := prog_26_method_150_code
def yJ0_init_db425 : MethodName := ⟨RJ0, "<init>", "(Ljava/lang/AbstractStringBuilder;Ljava/lang/Void;)V"⟩
abbrev cJ0_coder_7d493 : ByteArray := prog_26_method_152_code
def yJ0_coder_7d493 : MethodName := ⟨RJ0, "coder", "()B"⟩
abbrev cJ0_checkBoundsOffCount_cabcc : ByteArray := prog_26_method_157_code
def yJ0_checkBoundsOffCount_cabcc : MethodName := ⟨RJ0, "checkBoundsOffCount", "(III)I"⟩
abbrev cJ0_checkBoundsBeginEnd_23922 : ByteArray := prog_26_method_158_code
def yJ0_checkBoundsBeginEnd_23922 : MethodName := ⟨RJ0, "checkBoundsBeginEnd", "(III)V"⟩
def RJ4 : String := "java/lang/StringBuilder"
def TJ4 : u_T := fun k => match k with
  | 0 => ("java/lang/AbstractStringBuilder", "value", "[B", false)
  | 1 => ("java/lang/AbstractStringBuilder", "coder", "B", false)
  | 2 => ("java/lang/AbstractStringBuilder", "maybeLatin1", "Z", false)
  | _ => ("java/lang/AbstractStringBuilder", "count", "I", false)
def tyJ4 : Nat → FieldType := fun k => match k with
  | 0 => .array .byte
  | 1 => .byte
  | 2 => .boolean
  | _ => .int
abbrev wsJ40 : List Cond := u_ws RJ4 TJ4 4
theorem nmJ4 : ∀ a, a < 4 → ∀ b, b < 4 → a ≠ b → (TJ4 a).2.1 ≠ (TJ4 b).2.1 := by decide +kernel
theorem tyJ4_ok : ∀ k, k < 4 → parseFieldDescriptor (TJ4 k).2.2.1 = some (tyJ4 k) := by decide +kernel
abbrev cJ4_init_da8c8 : ByteArray := prog_27_method_1_code
def yJ4_init_da8c8 : MethodName := ⟨RJ4, "<init>", "()V"⟩
abbrev cJ4_append_15ec4 : ByteArray := prog_27_method_7_code
def yJ4_append_15ec4 : MethodName := ⟨RJ4, "append", "(Ljava/lang/String;)Ljava/lang/StringBuilder;"⟩
abbrev cJ4_append_bf812 : ByteArray := prog_27_method_15_code
def yJ4_append_bf812 : MethodName := ⟨RJ4, "append", "(I)Ljava/lang/StringBuilder;"⟩
abbrev cJ4_toString_0e30d : ByteArray := prog_27_method_42_code
def yJ4_toString_0e30d : MethodName := ⟨RJ4, "toString", "()Ljava/lang/String;"⟩
abbrev cJ4_length_8abf5 : ByteArray := prog_27_method_93_code
def yJ4_length_8abf5 : MethodName := ⟨RJ4, "length", "()I"⟩
def RJ1 : String := "java/lang/StringLatin1"
def TJ1 : u_T := fun k => match k with
  | _ => ("", "", "", false)
def tyJ1 : Nat → FieldType := fun k => match k with
  | _ => .int
abbrev wsJ10 : List Cond := u_ws RJ1 TJ1 0
theorem nmJ1 : ∀ a, a < 0 → ∀ b, b < 0 → a ≠ b → (TJ1 a).2.1 ≠ (TJ1 b).2.1 := by decide +kernel
theorem tyJ1_ok : ∀ k, k < 0 → parseFieldDescriptor (TJ1 k).2.2.1 = some (tyJ1 k) := by decide +kernel
abbrev cJ1_inflate_0e8fd : ByteArray := prog_28_method_50_code
def yJ1_inflate_0e8fd : MethodName := ⟨RJ1, "inflate", "([BI[BII)V"⟩
def RJ2 : String := "java/lang/StringUTF16"
def TJ2 : u_T := fun k => match k with
  | _ => ("", "", "", false)
def tyJ2 : Nat → FieldType := fun k => match k with
  | _ => .int
abbrev wsJ20 : List Cond := u_ws RJ2 TJ2 0
theorem nmJ2 : ∀ a, a < 0 → ∀ b, b < 0 → a ≠ b → (TJ2 a).2.1 ≠ (TJ2 b).2.1 := by decide +kernel
theorem tyJ2_ok : ∀ k, k < 0 → parseFieldDescriptor (TJ2 k).2.2.1 = some (tyJ2 k) := by decide +kernel
abbrev cJ2_newBytesFor_77867 : ByteArray := prog_29_method_2_code
def yJ2_newBytesFor_77867 : MethodName := ⟨RJ2, "newBytesFor", "(I)[B"⟩
abbrev cJ2_newBytesLength_0f7a4 : ByteArray := prog_29_method_3_code
def yJ2_newBytesLength_0f7a4 : MethodName := ⟨RJ2, "newBytesLength", "(I)I"⟩
abbrev cJ2_putChar_b72d1 : ByteArray := prog_29_method_4_code
def yJ2_putChar_b72d1 : MethodName := ⟨RJ2, "putChar", "([BII)V"⟩
abbrev cJ2_getChar_3b067 : ByteArray := prog_29_method_5_code
def yJ2_getChar_3b067 : MethodName := ⟨RJ2, "getChar", "([BI)C"⟩
abbrev cJ2_length_9d52b : ByteArray := prog_29_method_6_code
def yJ2_length_9d52b : MethodName := ⟨RJ2, "length", "([B)I"⟩
abbrev cJ2_coderFromArrayLen_85cad : ByteArray := prog_29_method_15_code
def yJ2_coderFromArrayLen_85cad : MethodName := ⟨RJ2, "coderFromArrayLen", "([BI)B"⟩
abbrev cJ2_compress_39247 : ByteArray := prog_29_method_17_code
def yJ2_compress_39247 : MethodName := ⟨RJ2, "compress", "([BII)[B"⟩
abbrev cJ2_compress_5af95 : ByteArray := prog_29_method_22_code
def yJ2_compress_5af95 : MethodName := ⟨RJ2, "compress", "([BI[BII)I"⟩
abbrev cJ2_getChars_46870 : ByteArray := prog_29_method_77_code
def yJ2_getChars_46870 : MethodName := ⟨RJ2, "getChars", "(III[B)I"⟩
abbrev cJ2_putCharsAt_cd4e5 : ByteArray := prog_29_method_81_code
def yJ2_putCharsAt_cd4e5 : MethodName := ⟨RJ2, "putCharsAt", "([BICCCC)I"⟩
abbrev cJ2_inflate_0e8fd : ByteArray := prog_29_method_86_code
def yJ2_inflate_0e8fd : MethodName := ⟨RJ2, "inflate", "([BI[BII)V"⟩
abbrev cJ2_getChars_ba4f3 : ByteArray := prog_29_method_89_code
def yJ2_getChars_ba4f3 : MethodName := ⟨RJ2, "getChars", "(II[B)I"⟩
abbrev cJ2_checkBoundsBeginEnd_d044e : ByteArray := prog_29_method_93_code
def yJ2_checkBoundsBeginEnd_d044e : MethodName := ⟨RJ2, "checkBoundsBeginEnd", "(II[B)V"⟩
abbrev cJ2_checkBoundsOffCount_d044e : ByteArray := prog_29_method_94_code
def yJ2_checkBoundsOffCount_d044e : MethodName := ⟨RJ2, "checkBoundsOffCount", "(II[B)V"⟩
def RJ10 : String := "java/lang/System"
def TJ10 : u_T := fun k => match k with
  | _ => ("", "", "", false)
def tyJ10 : Nat → FieldType := fun k => match k with
  | _ => .int
abbrev wsJ100 : List Cond := u_ws RJ10 TJ10 0
theorem nmJ10 : ∀ a, a < 0 → ∀ b, b < 0 → a ≠ b → (TJ10 a).2.1 ≠ (TJ10 b).2.1 := by decide +kernel
theorem tyJ10_ok : ∀ k, k < 0 → parseFieldDescriptor (TJ10 k).2.2.1 = some (tyJ10 k) := by decide +kernel
def RJxfd54e : String := "java/lang/constant/Constable"
def TJxfd54e : u_T := fun k => match k with
  | _ => ("", "", "", false)
def tyJxfd54e : Nat → FieldType := fun k => match k with
  | _ => .int
abbrev wsJxfd54e0 : List Cond := u_ws RJxfd54e TJxfd54e 0
theorem nmJxfd54e : ∀ a, a < 0 → ∀ b, b < 0 → a ≠ b → (TJxfd54e a).2.1 ≠ (TJxfd54e b).2.1 := by decide +kernel
theorem tyJxfd54e_ok : ∀ k, k < 0 → parseFieldDescriptor (TJxfd54e k).2.2.1 = some (tyJxfd54e k) := by decide +kernel
def RJx3cf43 : String := "java/lang/constant/ConstantDesc"
def TJx3cf43 : u_T := fun k => match k with
  | _ => ("", "", "", false)
def tyJx3cf43 : Nat → FieldType := fun k => match k with
  | _ => .int
abbrev wsJx3cf430 : List Cond := u_ws RJx3cf43 TJx3cf43 0
theorem nmJx3cf43 : ∀ a, a < 0 → ∀ b, b < 0 → a ≠ b → (TJx3cf43 a).2.1 ≠ (TJx3cf43 b).2.1 := by decide +kernel
theorem tyJx3cf43_ok : ∀ k, k < 0 → parseFieldDescriptor (TJx3cf43 k).2.2.1 = some (tyJx3cf43 k) := by decide +kernel
def RJxa1e45 : String := "java/util/AbstractCollection"
def TJxa1e45 : u_T := fun k => match k with
  | _ => ("", "", "", false)
def tyJxa1e45 : Nat → FieldType := fun k => match k with
  | _ => .int
abbrev wsJxa1e450 : List Cond := u_ws RJxa1e45 TJxa1e45 0
theorem nmJxa1e45 : ∀ a, a < 0 → ∀ b, b < 0 → a ≠ b → (TJxa1e45 a).2.1 ≠ (TJxa1e45 b).2.1 := by decide +kernel
theorem tyJxa1e45_ok : ∀ k, k < 0 → parseFieldDescriptor (TJxa1e45 k).2.2.1 = some (tyJxa1e45 k) := by decide +kernel
abbrev cJxa1e45_init_da8c8 : ByteArray := prog_35_method_1_code
def yJxa1e45_init_da8c8 : MethodName := ⟨RJxa1e45, "<init>", "()V"⟩
def RJxc12de : String := "java/util/AbstractList"
def TJxc12de : u_T := fun k => match k with
  | _ => ("", "", "", false)
def tyJxc12de : Nat → FieldType := fun k => match k with
  | _ => .int
abbrev wsJxc12de0 : List Cond := u_ws RJxc12de TJxc12de 0
theorem nmJxc12de : ∀ a, a < 0 → ∀ b, b < 0 → a ≠ b → (TJxc12de a).2.1 ≠ (TJxc12de b).2.1 := by decide +kernel
theorem tyJxc12de_ok : ∀ k, k < 0 → parseFieldDescriptor (TJxc12de k).2.2.1 = some (tyJxc12de k) := by decide +kernel
abbrev cJxc12de_init_da8c8 : ByteArray := prog_36_method_1_code
def yJxc12de_init_da8c8 : MethodName := ⟨RJxc12de, "<init>", "()V"⟩
def RJx4a65c : String := "java/util/ArrayList"
def TJx4a65c : u_T := fun k => match k with
  | 0 => ("java/util/AbstractList", "modCount", "I", false)
  | 1 => ("java/util/ArrayList", "elementData", "[Ljava/lang/Object;", false)
  | _ => ("java/util/ArrayList", "size", "I", false)
def tyJx4a65c : Nat → FieldType := fun k => match k with
  | 0 => .int
  | 1 => .array (.object "java/lang/Object")
  | _ => .int
abbrev wsJx4a65c0 : List Cond := u_ws RJx4a65c TJx4a65c 3
theorem nmJx4a65c : ∀ a, a < 3 → ∀ b, b < 3 → a ≠ b → (TJx4a65c a).2.1 ≠ (TJx4a65c b).2.1 := by decide +kernel
theorem tyJx4a65c_ok : ∀ k, k < 3 → parseFieldDescriptor (TJx4a65c k).2.2.1 = some (tyJx4a65c k) := by decide +kernel
abbrev cJx4a65c_init_da8c8 : ByteArray := prog_37_method_2_code
def yJx4a65c_init_da8c8 : MethodName := ⟨RJx4a65c, "<init>", "()V"⟩
abbrev cJx4a65c_grow_92f84 : ByteArray := prog_37_method_6_code
def yJx4a65c_grow_92f84 : MethodName := ⟨RJx4a65c, "grow", "(I)[Ljava/lang/Object;"⟩
abbrev cJx4a65c_grow_d5877 : ByteArray := prog_37_method_7_code
def yJx4a65c_grow_d5877 : MethodName := ⟨RJx4a65c, "grow", "()[Ljava/lang/Object;"⟩
abbrev cJx4a65c_size_8abf5 : ByteArray := prog_37_method_8_code
def yJx4a65c_size_8abf5 : MethodName := ⟨RJx4a65c, "size", "()I"⟩
abbrev cJx4a65c_elementData_915e3 : ByteArray := prog_37_method_18_code
def yJx4a65c_elementData_915e3 : MethodName := ⟨RJx4a65c, "elementData", "(I)Ljava/lang/Object;"⟩
abbrev cJx4a65c_get_915e3 : ByteArray := prog_37_method_20_code
def yJx4a65c_get_915e3 : MethodName := ⟨RJx4a65c, "get", "(I)Ljava/lang/Object;"⟩
abbrev cJx4a65c_add_72be8 : ByteArray := prog_37_method_24_code
def yJx4a65c_add_72be8 : MethodName := ⟨RJx4a65c, "add", "(Ljava/lang/Object;[Ljava/lang/Object;I)V"⟩
abbrev cJx4a65c_add_9ea2d : ByteArray := prog_37_method_25_code
def yJx4a65c_add_9ea2d : MethodName := ⟨RJx4a65c, "add", "(Ljava/lang/Object;)Z"⟩
abbrev cJx4a65c_add_7a177 : ByteArray := prog_37_method_26_code
def yJx4a65c_add_7a177 : MethodName := ⟨RJx4a65c, "add", "(ILjava/lang/Object;)V"⟩
abbrev cJx4a65c_remove_915e3 : ByteArray := prog_37_method_29_code
def yJx4a65c_remove_915e3 : MethodName := ⟨RJx4a65c, "remove", "(I)Ljava/lang/Object;"⟩
abbrev cJx4a65c_fastRemove_b59b0 : ByteArray := prog_37_method_39_code
def yJx4a65c_fastRemove_b59b0 : MethodName := ⟨RJx4a65c, "fastRemove", "([Ljava/lang/Object;I)V"⟩
abbrev cJx4a65c_rangeCheckForAdd_d00df : ByteArray := prog_37_method_45_code
def yJx4a65c_rangeCheckForAdd_d00df : MethodName := ⟨RJx4a65c, "rangeCheckForAdd", "(I)V"⟩
abbrev cJx4a65c_outOfBoundsMsg_b52d3 : ByteArray := prog_37_method_46_code
def yJx4a65c_outOfBoundsMsg_b52d3 : MethodName := ⟨RJx4a65c, "outOfBoundsMsg", "(I)Ljava/lang/String;"⟩
def RJ7 : String := "java/util/Arrays"
def TJ7 : u_T := fun k => match k with
  | _ => ("", "", "", false)
def tyJ7 : Nat → FieldType := fun k => match k with
  | _ => .int
abbrev wsJ70 : List Cond := u_ws RJ7 TJ7 0
theorem nmJ7 : ∀ a, a < 0 → ∀ b, b < 0 → a ≠ b → (TJ7 a).2.1 ≠ (TJ7 b).2.1 := by decide +kernel
theorem tyJ7_ok : ∀ k, k < 0 → parseFieldDescriptor (TJ7 k).2.2.1 = some (tyJ7 k) := by decide +kernel
abbrev cJ7_copyOf_1904c : ByteArray := prog_38_method_119_code
def yJ7_copyOf_1904c : MethodName := ⟨RJ7, "copyOf", "([Ljava/lang/Object;I)[Ljava/lang/Object;"⟩
abbrev cJ7_copyOf_6403c : ByteArray := prog_38_method_120_code
def yJ7_copyOf_6403c : MethodName := ⟨RJ7, "copyOf", "([Ljava/lang/Object;ILjava/lang/Class;)[Ljava/lang/Object;"⟩
abbrev cJ7_copyOf_9075b : ByteArray := prog_38_method_121_code
def yJ7_copyOf_9075b : MethodName := ⟨RJ7, "copyOf", "([BI)[B"⟩
abbrev cJ7_checkLength_df160 : ByteArray := prog_38_method_131_code
def yJ7_checkLength_df160 : MethodName := ⟨RJ7, "checkLength", "(II)V"⟩
abbrev cJ7_copyOfRange_39247 : ByteArray := prog_38_method_132_code
def yJ7_copyOfRange_39247 : MethodName := ⟨RJ7, "copyOfRange", "([BII)[B"⟩
abbrev cJ7_copyOfRangeByte_39247 : ByteArray := prog_38_method_133_code
def yJ7_copyOfRangeByte_39247 : MethodName := ⟨RJ7, "copyOfRangeByte", "([BII)[B"⟩
def RJx5ef63 : String := "java/util/Collection"
def TJx5ef63 : u_T := fun k => match k with
  | _ => ("", "", "", false)
def tyJx5ef63 : Nat → FieldType := fun k => match k with
  | _ => .int
abbrev wsJx5ef630 : List Cond := u_ws RJx5ef63 TJx5ef63 0
theorem nmJx5ef63 : ∀ a, a < 0 → ∀ b, b < 0 → a ≠ b → (TJx5ef63 a).2.1 ≠ (TJx5ef63 b).2.1 := by decide +kernel
theorem tyJx5ef63_ok : ∀ k, k < 0 → parseFieldDescriptor (TJx5ef63 k).2.2.1 = some (tyJx5ef63 k) := by decide +kernel
def RJxbd725 : String := "java/util/List"
def TJxbd725 : u_T := fun k => match k with
  | _ => ("", "", "", false)
def tyJxbd725 : Nat → FieldType := fun k => match k with
  | _ => .int
abbrev wsJxbd7250 : List Cond := u_ws RJxbd725 TJxbd725 0
theorem nmJxbd725 : ∀ a, a < 0 → ∀ b, b < 0 → a ≠ b → (TJxbd725 a).2.1 ≠ (TJxbd725 b).2.1 := by decide +kernel
theorem tyJxbd725_ok : ∀ k, k < 0 → parseFieldDescriptor (TJxbd725 k).2.2.1 = some (tyJxbd725 k) := by decide +kernel
def RJ15 : String := "java/util/Objects"
def TJ15 : u_T := fun k => match k with
  | _ => ("", "", "", false)
def tyJ15 : Nat → FieldType := fun k => match k with
  | _ => .int
abbrev wsJ150 : List Cond := u_ws RJ15 TJ15 0
theorem nmJ15 : ∀ a, a < 0 → ∀ b, b < 0 → a ≠ b → (TJ15 a).2.1 ≠ (TJ15 b).2.1 := by decide +kernel
theorem tyJ15_ok : ∀ k, k < 0 → parseFieldDescriptor (TJ15 k).2.2.1 = some (tyJ15 k) := by decide +kernel
abbrev cJ15_checkIndex_7cf53 : ByteArray := prog_42_method_17_code
def yJ15_checkIndex_7cf53 : MethodName := ⟨RJ15, "checkIndex", "(II)I"⟩
def RJxf0a74 : String := "java/util/RandomAccess"
def TJxf0a74 : u_T := fun k => match k with
  | _ => ("", "", "", false)
def tyJxf0a74 : Nat → FieldType := fun k => match k with
  | _ => .int
abbrev wsJxf0a740 : List Cond := u_ws RJxf0a74 TJxf0a74 0
theorem nmJxf0a74 : ∀ a, a < 0 → ∀ b, b < 0 → a ≠ b → (TJxf0a74 a).2.1 ≠ (TJxf0a74 b).2.1 := by decide +kernel
theorem tyJxf0a74_ok : ∀ k, k < 0 → parseFieldDescriptor (TJxf0a74 k).2.2.1 = some (tyJxf0a74 k) := by decide +kernel
def RJxa66e6 : String := "java/util/SequencedCollection"
def TJxa66e6 : u_T := fun k => match k with
  | _ => ("", "", "", false)
def tyJxa66e6 : Nat → FieldType := fun k => match k with
  | _ => .int
abbrev wsJxa66e60 : List Cond := u_ws RJxa66e6 TJxa66e6 0
theorem nmJxa66e6 : ∀ a, a < 0 → ∀ b, b < 0 → a ≠ b → (TJxa66e6 a).2.1 ≠ (TJxa66e6 b).2.1 := by decide +kernel
theorem tyJxa66e6_ok : ∀ k, k < 0 → parseFieldDescriptor (TJxa66e6 k).2.2.1 = some (tyJxa66e6 k) := by decide +kernel
def RJ8 : String := "jdk/internal/util/ArraysSupport"
def TJ8 : u_T := fun k => match k with
  | _ => ("", "", "", false)
def tyJ8 : Nat → FieldType := fun k => match k with
  | _ => .int
abbrev wsJ80 : List Cond := u_ws RJ8 TJ8 0
theorem nmJ8 : ∀ a, a < 0 → ∀ b, b < 0 → a ≠ b → (TJ8 a).2.1 ≠ (TJ8 b).2.1 := by decide +kernel
theorem tyJ8_ok : ∀ k, k < 0 → parseFieldDescriptor (TJ8 k).2.2.1 = some (tyJ8 k) := by decide +kernel
abbrev cJ8_newLength_cabcc : ByteArray := prog_45_method_27_code
def yJ8_newLength_cabcc : MethodName := ⟨RJ8, "newLength", "(III)I"⟩
abbrev cJ8_hugeLength_7cf53 : ByteArray := prog_45_method_28_code
def yJ8_hugeLength_7cf53 : MethodName := ⟨RJ8, "hugeLength", "(II)I"⟩
def RJ3 : String := "jdk/internal/util/Preconditions"
def TJ3 : u_T := fun k => match k with
  | _ => ("", "", "", false)
def tyJ3 : Nat → FieldType := fun k => match k with
  | _ => .int
abbrev wsJ30 : List Cond := u_ws RJ3 TJ3 0
theorem nmJ3 : ∀ a, a < 0 → ∀ b, b < 0 → a ≠ b → (TJ3 a).2.1 ≠ (TJ3 b).2.1 := by decide +kernel
theorem tyJ3_ok : ∀ k, k < 0 → parseFieldDescriptor (TJ3 k).2.2.1 = some (tyJ3 k) := by decide +kernel
abbrev cJ3_checkIndex_8e157 : ByteArray := prog_46_method_11_code
def yJ3_checkIndex_8e157 : MethodName := ⟨RJ3, "checkIndex", "(IILjava/util/function/BiFunction;)I"⟩
abbrev cJ3_checkFromToIndex_8c36e : ByteArray := prog_46_method_12_code
def yJ3_checkFromToIndex_8c36e : MethodName := ⟨RJ3, "checkFromToIndex", "(IIILjava/util/function/BiFunction;)I"⟩
abbrev cJ3_checkFromIndexSize_8c36e : ByteArray := prog_46_method_13_code
def yJ3_checkFromIndexSize_8c36e : MethodName := ⟨RJ3, "checkFromIndexSize", "(IIILjava/util/function/BiFunction;)I"⟩
def RL : String := "CalendaryPlannerLaw"
abbrev cL_setRoom : ByteArray := method_3_code
def yL_setRoom : MethodName := ⟨RL, "setRoom", "(LCalendaryPlanner;III[J)I"⟩
abbrev cL_setGap : ByteArray := method_4_code
def yL_setGap : MethodName := ⟨RL, "setGap", "(LCalendaryPlanner;I[J)I"⟩
abbrev cL_seatsOf : ByteArray := method_5_code
def yL_seatsOf : MethodName := ⟨RL, "seatsOf", "(LCalendaryPlanner;I[J)I"⟩
abbrev cL_houseOf : ByteArray := method_6_code
def yL_houseOf : MethodName := ⟨RL, "houseOf", "(LCalendaryPlanner;I[J)I"⟩
abbrev cL_ask : ByteArray := method_7_code
def yL_ask : MethodName := ⟨RL, "ask", "(LCalendaryPlanner;IIIII[J)I"⟩
abbrev cL_extend : ByteArray := method_8_code
def yL_extend : MethodName := ⟨RL, "extend", "(LCalendaryPlanner;III[J)I"⟩
abbrev cL_remove : ByteArray := method_9_code
def yL_remove : MethodName := ⟨RL, "remove", "(LCalendaryPlanner;I[J)I"⟩
abbrev cL_answer : ByteArray := method_10_code
def yL_answer : MethodName := ⟨RL, "answer", "(LCalendaryPlanner;IIC[J)I"⟩
abbrev cL_cancel : ByteArray := method_11_code
def yL_cancel : MethodName := ⟨RL, "cancel", "(LCalendaryPlanner;II[J)I"⟩
abbrev cL_move : ByteArray := method_12_code
def yL_move : MethodName := ⟨RL, "move", "(LCalendaryPlanner;IIII[J)I"⟩
abbrev cL_meetingAt : ByteArray := method_13_code
def yL_meetingAt : MethodName := ⟨RL, "meetingAt", "(LCalendaryPlanner;I[J)I"⟩
abbrev cL_hostOf : ByteArray := method_14_code
def yL_hostOf : MethodName := ⟨RL, "hostOf", "(LCalendaryPlanner;I[J)I"⟩
abbrev cL_answerOf : ByteArray := method_15_code
def yL_answerOf : MethodName := ⟨RL, "answerOf", "(LCalendaryPlanner;II[J)I"⟩
abbrev cL_expected : ByteArray := method_16_code
def yL_expected : MethodName := ⟨RL, "expected", "(LCalendaryPlanner;I[J)I"⟩
abbrev cL_dateCount : ByteArray := method_17_code
def yL_dateCount : MethodName := ⟨RL, "dateCount", "(LCalendaryPlanner;I[J)I"⟩
abbrev cL_dayOf : ByteArray := method_18_code
def yL_dayOf : MethodName := ⟨RL, "dayOf", "(LCalendaryPlanner;II[J)I"⟩
abbrev cL_timeOf : ByteArray := method_19_code
def yL_timeOf : MethodName := ⟨RL, "timeOf", "(LCalendaryPlanner;II[J)I"⟩
abbrev cL_isCancelled : ByteArray := method_20_code
def yL_isCancelled : MethodName := ⟨RL, "isCancelled", "(LCalendaryPlanner;II[J)I"⟩
abbrev cL_roomOf : ByteArray := method_21_code
def yL_roomOf : MethodName := ⟨RL, "roomOf", "(LCalendaryPlanner;II[J)I"⟩
abbrev cL_refusalReason : ByteArray := method_22_code
def yL_refusalReason : MethodName := ⟨RL, "refusalReason", "(LCalendaryPlanner;[J)I"⟩
abbrev cL_refusalDetail : ByteArray := method_23_code
def yL_refusalDetail : MethodName := ⟨RL, "refusalDetail", "(LCalendaryPlanner;[J)I"⟩
abbrev cL_isFree : ByteArray := method_24_code
def yL_isFree : MethodName := ⟨RL, "isFree", "(LCalendaryPlanner;III[J)I"⟩
abbrev cL_meetingOf : ByteArray := method_25_code
def yL_meetingOf : MethodName := ⟨RL, "meetingOf", "(LCalendaryPlanner;III[J)I"⟩
abbrev cL_freeTimes : ByteArray := method_26_code
def yL_freeTimes : MethodName := ⟨RL, "freeTimes", "(LCalendaryPlanner;II[J)I"⟩
abbrev cL_freeByTrying : ByteArray := method_27_code
def yL_freeByTrying : MethodName := ⟨RL, "freeByTrying", "(LCalendaryPlanner;II[J)I"⟩
abbrev cL_longestFree : ByteArray := method_28_code
def yL_longestFree : MethodName := ⟨RL, "longestFree", "(LCalendaryPlanner;II[J)I"⟩
abbrev cL_firstCommon : ByteArray := method_29_code
def yL_firstCommon : MethodName := ⟨RL, "firstCommon", "(LCalendaryPlanner;III[J)I"⟩
abbrev cL_commonCount : ByteArray := method_30_code
def yL_commonCount : MethodName := ⟨RL, "commonCount", "(LCalendaryPlanner;III[J)I"⟩
abbrev cL_roomFor : ByteArray := method_31_code
def yL_roomFor : MethodName := ⟨RL, "roomFor", "(LCalendaryPlanner;IIII[J)I"⟩
abbrev cL_usedTimes : ByteArray := method_32_code
def yL_usedTimes : MethodName := ⟨RL, "usedTimes", "(LCalendaryPlanner;II[J)I"⟩
abbrev cL_walks : ByteArray := method_33_code
def yL_walks : MethodName := ⟨RL, "walks", "(LCalendaryPlanner;II[J)I"⟩
abbrev cL_meanExpected : ByteArray := method_34_code
def yL_meanExpected : MethodName := ⟨RL, "meanExpected", "(LCalendaryPlanner;[D)I"⟩
abbrev cL_yesShare : ByteArray := method_35_code
def yL_yesShare : MethodName := ⟨RL, "yesShare", "(LCalendaryPlanner;[D)I"⟩
abbrev cL_law : ByteArray := code
def yL_law : MethodName := ⟨RL, "law", "([I)Z"⟩
abbrev vwCl : List vw_C := [(RJ0, TJ0, 4), (RJ4, TJ4, 4), (RJx00060, TJx00060, 6), (RJx4a65c, TJx4a65c, 3), (RX0, TX0, 4), (RX1, TX1, 1), (RX2, TX2, 6), (RX3, TX3, 3), (RX4, TX4, 3), (RX5, TX5, 7), (RX6, TX6, 5)]
