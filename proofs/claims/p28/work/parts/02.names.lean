/-! ===== BEGIN printed: names, fields, word lists, decode rows ===== -/
def RX0 : String := "FrostCalendar$Change"
def TX0 : u_T := fun k => match k with
  | 0 => ("FrostCalendar$Change", "scope", "I", true)
  | 1 => ("FrostCalendar$Change", "length", "I", true)
  | 2 => ("FrostCalendar$Change", "risk", "I", true)
  | 3 => ("FrostCalendar$Change", "from", "I", false)
  | 4 => ("FrostCalendar$Change", "approvedRank", "I", false)
  | 5 => ("FrostCalendar$Change", "excusedFrom", "I", false)
  | 6 => ("FrostCalendar$Change", "hasBegun", "Z", false)
  | _ => ("FrostCalendar$Change", "freezesLaidBefore", "I", false)
def tyX0 : Nat → FieldType := fun k => match k with
  | 0 => .int
  | 1 => .int
  | 2 => .int
  | 3 => .int
  | 4 => .int
  | 5 => .int
  | 6 => .boolean
  | _ => .int
abbrev wsX00 : List Cond := u_ws RX0 TX0 8
theorem nmX0 : ∀ a, a < 8 → ∀ b, b < 8 → a ≠ b → (TX0 a).2.1 ≠ (TX0 b).2.1 := by decide +kernel
theorem tyX0_ok : ∀ k, k < 8 → parseFieldDescriptor (TX0 k).2.2.1 = some (tyX0 k) := by decide +kernel
abbrev cX0_init : ByteArray := prog_2_method_1_code
def yX0_init : MethodName := ⟨RX0, "<init>", "(IIII)V"⟩
abbrev cX0_hourBehind : ByteArray := prog_2_method_2_code
def yX0_hourBehind : MethodName := ⟨RX0, "hourBehind", "()I"⟩
def RX1 : String := "FrostCalendar$Freeze"
def TX1 : u_T := fun k => match k with
  | _ => ("", "", "", false)
def tyX1 : Nat → FieldType := fun k => match k with
  | _ => .int
abbrev wsX10 : List Cond := u_ws RX1 TX1 0
theorem nmX1 : ∀ a, a < 0 → ∀ b, b < 0 → a ≠ b → (TX1 a).2.1 ≠ (TX1 b).2.1 := by decide +kernel
theorem tyX1_ok : ∀ k, k < 0 → parseFieldDescriptor (TX1 k).2.2.1 = some (tyX1 k) := by decide +kernel
abbrev cX1_init : ByteArray := prog_3_method_1_code
def yX1_init : MethodName := ⟨RX1, "<init>", "(II)V"⟩
def RX2 : String := "FrostCalendar$FreezeDaily"
def TX2 : u_T := fun k => match k with
  | 0 => ("FrostCalendar$Freeze", "scope", "I", true)
  | 1 => ("FrostCalendar$Freeze", "rank", "I", true)
  | 2 => ("FrostCalendar$FreezeDaily", "land", "LFrostCalendar$Land;", true)
  | 3 => ("FrostCalendar$FreezeDaily", "first", "I", true)
  | _ => ("FrostCalendar$FreezeDaily", "second", "I", true)
def tyX2 : Nat → FieldType := fun k => match k with
  | 0 => .int
  | 1 => .int
  | 2 => .object "FrostCalendar$Land"
  | 3 => .int
  | _ => .int
abbrev wsX20 : List Cond := u_ws RX2 TX2 5
theorem nmX2 : ∀ a, a < 5 → ∀ b, b < 5 → a ≠ b → (TX2 a).2.1 ≠ (TX2 b).2.1 := by decide +kernel
theorem tyX2_ok : ∀ k, k < 5 → parseFieldDescriptor (TX2 k).2.2.1 = some (tyX2 k) := by decide +kernel
abbrev cX2_init : ByteArray := prog_4_method_1_code
def yX2_init : MethodName := ⟨RX2, "<init>", "(IILFrostCalendar$Land;II)V"⟩
abbrev cX2_holdsIn : ByteArray := prog_4_method_2_code
def yX2_holdsIn : MethodName := ⟨RX2, "holdsIn", "(I)Z"⟩
def RX3 : String := "FrostCalendar$FreezeOnFeasts"
def TX3 : u_T := fun k => match k with
  | 0 => ("FrostCalendar$Freeze", "scope", "I", true)
  | 1 => ("FrostCalendar$Freeze", "rank", "I", true)
  | _ => ("FrostCalendar$FreezeOnFeasts", "land", "LFrostCalendar$Land;", true)
def tyX3 : Nat → FieldType := fun k => match k with
  | 0 => .int
  | 1 => .int
  | _ => .object "FrostCalendar$Land"
abbrev wsX30 : List Cond := u_ws RX3 TX3 3
theorem nmX3 : ∀ a, a < 3 → ∀ b, b < 3 → a ≠ b → (TX3 a).2.1 ≠ (TX3 b).2.1 := by decide +kernel
theorem tyX3_ok : ∀ k, k < 3 → parseFieldDescriptor (TX3 k).2.2.1 = some (tyX3 k) := by decide +kernel
abbrev cX3_init : ByteArray := prog_5_method_1_code
def yX3_init : MethodName := ⟨RX3, "<init>", "(IILFrostCalendar$Land;)V"⟩
abbrev cX3_holdsIn : ByteArray := prog_5_method_2_code
def yX3_holdsIn : MethodName := ⟨RX3, "holdsIn", "(I)Z"⟩
def RX4 : String := "FrostCalendar$FreezeOnce"
def TX4 : u_T := fun k => match k with
  | 0 => ("FrostCalendar$Freeze", "scope", "I", true)
  | 1 => ("FrostCalendar$Freeze", "rank", "I", true)
  | 2 => ("FrostCalendar$FreezeOnce", "from", "I", true)
  | _ => ("FrostCalendar$FreezeOnce", "to", "I", true)
def tyX4 : Nat → FieldType := fun k => match k with
  | 0 => .int
  | 1 => .int
  | 2 => .int
  | _ => .int
abbrev wsX40 : List Cond := u_ws RX4 TX4 4
theorem nmX4 : ∀ a, a < 4 → ∀ b, b < 4 → a ≠ b → (TX4 a).2.1 ≠ (TX4 b).2.1 := by decide +kernel
theorem tyX4_ok : ∀ k, k < 4 → parseFieldDescriptor (TX4 k).2.2.1 = some (tyX4 k) := by decide +kernel
abbrev cX4_init : ByteArray := prog_6_method_1_code
def yX4_init : MethodName := ⟨RX4, "<init>", "(IIII)V"⟩
abbrev cX4_holdsIn : ByteArray := prog_6_method_2_code
def yX4_holdsIn : MethodName := ⟨RX4, "holdsIn", "(I)Z"⟩
def RX5 : String := "FrostCalendar$Land"
def TX5 : u_T := fun k => match k with
  | 0 => ("FrostCalendar$Land", "offset", "I", false)
  | _ => ("FrostCalendar$Land", "feastDays", "I", false)
def tyX5 : Nat → FieldType := fun k => match k with
  | 0 => .int
  | _ => .int
abbrev wsX50 : List Cond := u_ws RX5 TX5 2
theorem nmX5 : ∀ a, a < 2 → ∀ b, b < 2 → a ≠ b → (TX5 a).2.1 ≠ (TX5 b).2.1 := by decide +kernel
theorem tyX5_ok : ∀ k, k < 2 → parseFieldDescriptor (TX5 k).2.2.1 = some (tyX5 k) := by decide +kernel
abbrev cX5_init : ByteArray := prog_7_method_1_code
def yX5_init : MethodName := ⟨RX5, "<init>", "()V"⟩
abbrev cX5_hourOfDay : ByteArray := prog_7_method_2_code
def yX5_hourOfDay : MethodName := ⟨RX5, "hourOfDay", "(I)I"⟩
abbrev cX5_dayOf : ByteArray := prog_7_method_3_code
def yX5_dayOf : MethodName := ⟨RX5, "dayOf", "(I)I"⟩
abbrev cX5_isFeastDay : ByteArray := prog_7_method_4_code
def yX5_isFeastDay : MethodName := ⟨RX5, "isFeastDay", "(I)Z"⟩
abbrev cX5_turnFeastDay : ByteArray := prog_7_method_5_code
def yX5_turnFeastDay : MethodName := ⟨RX5, "turnFeastDay", "(I)V"⟩
def RX6 : String := "FrostCalendar"
def TX6 : u_T := fun k => match k with
  | 0 => ("FrostCalendar", "scopesAround", "[I", true)
  | 1 => ("FrostCalendar", "scopeCount", "I", false)
  | 2 => ("FrostCalendar", "lands", "[LFrostCalendar$Land;", true)
  | 3 => ("FrostCalendar", "hourOfNow", "I", false)
  | 4 => ("FrostCalendar", "freezes", "[LFrostCalendar$Freeze;", true)
  | 5 => ("FrostCalendar", "laidFreezes", "I", false)
  | 6 => ("FrostCalendar", "standingFreezes", "I", false)
  | 7 => ("FrostCalendar", "changes", "[LFrostCalendar$Change;", true)
  | 8 => ("FrostCalendar", "changeCount", "I", false)
  | 9 => ("FrostCalendar", "exceptionsLeft", "[I", true)
  | _ => ("FrostCalendar", "badMarks", "[Z", true)
def tyX6 : Nat → FieldType := fun k => match k with
  | 0 => .array .int
  | 1 => .int
  | 2 => .array (.object "FrostCalendar$Land")
  | 3 => .int
  | 4 => .array (.object "FrostCalendar$Freeze")
  | 5 => .int
  | 6 => .int
  | 7 => .array (.object "FrostCalendar$Change")
  | 8 => .int
  | 9 => .array .int
  | _ => .array .boolean
abbrev wsX60 : List Cond := u_ws RX6 TX6 11
theorem nmX6 : ∀ a, a < 11 → ∀ b, b < 11 → a ≠ b → (TX6 a).2.1 ≠ (TX6 b).2.1 := by decide +kernel
theorem tyX6_ok : ∀ k, k < 11 → parseFieldDescriptor (TX6 k).2.2.1 = some (tyX6 k) := by decide +kernel
abbrev cX6_init : ByteArray := prog_1_method_1_code
def yX6_init : MethodName := ⟨RX6, "<init>", "()V"⟩
abbrev cX6_scope : ByteArray := prog_1_method_2_code
def yX6_scope : MethodName := ⟨RX6, "scope", "(I)I"⟩
abbrev cX6_offset : ByteArray := prog_1_method_3_code
def yX6_offset : MethodName := ⟨RX6, "offset", "(II)I"⟩
abbrev cX6_feast : ByteArray := prog_1_method_4_code
def yX6_feast : MethodName := ⟨RX6, "feast", "(II)Z"⟩
abbrev cX6_pass : ByteArray := prog_1_method_5_code
def yX6_pass : MethodName := ⟨RX6, "pass", "(I)I"⟩
abbrev cX6_now : ByteArray := prog_1_method_6_code
def yX6_now : MethodName := ⟨RX6, "now", "()I"⟩
abbrev cX6_once : ByteArray := prog_1_method_7_code
def yX6_once : MethodName := ⟨RX6, "once", "(IIII)I"⟩
abbrev cX6_daily : ByteArray := prog_1_method_8_code
def yX6_daily : MethodName := ⟨RX6, "daily", "(IIIII)I"⟩
abbrev cX6_feasts : ByteArray := prog_1_method_9_code
def yX6_feasts : MethodName := ⟨RX6, "feasts", "(III)I"⟩
abbrev cX6_lift : ByteArray := prog_1_method_10_code
def yX6_lift : MethodName := ⟨RX6, "lift", "(I)I"⟩
abbrev cX6_holding : ByteArray := prog_1_method_11_code
def yX6_holding : MethodName := ⟨RX6, "holding", "(II)I"⟩
abbrev cX6_hours : ByteArray := prog_1_method_12_code
def yX6_hours : MethodName := ⟨RX6, "hours", "(I)I"⟩
abbrev cX6_nextSpan : ByteArray := prog_1_method_13_code
def yX6_nextSpan : MethodName := ⟨RX6, "nextSpan", "(III)I"⟩
abbrev cX6_plan : ByteArray := prog_1_method_14_code
def yX6_plan : MethodName := ⟨RX6, "plan", "(IIII)I"⟩
abbrev cX6_move : ByteArray := prog_1_method_15_code
def yX6_move : MethodName := ⟨RX6, "move", "(II)I"⟩
abbrev cX6_approve : ByteArray := prog_1_method_16_code
def yX6_approve : MethodName := ⟨RX6, "approve", "(I)I"⟩
abbrev cX6_begin : ByteArray := prog_1_method_17_code
def yX6_begin : MethodName := ⟨RX6, "begin", "(I)I"⟩
abbrev cX6_state : ByteArray := prog_1_method_18_code
def yX6_state : MethodName := ⟨RX6, "state", "(I)I"⟩
abbrev cX6_approved : ByteArray := prog_1_method_19_code
def yX6_approved : MethodName := ⟨RX6, "approved", "(I)I"⟩
abbrev cX6_exceptions : ByteArray := prog_1_method_20_code
def yX6_exceptions : MethodName := ⟨RX6, "exceptions", "(II)I"⟩
abbrev cX6_left : ByteArray := prog_1_method_21_code
def yX6_left : MethodName := ⟨RX6, "left", "(I)I"⟩
abbrev cX6_excuse : ByteArray := prog_1_method_22_code
def yX6_excuse : MethodName := ⟨RX6, "excuse", "(II)I"⟩
abbrev cX6_badHours : ByteArray := prog_1_method_23_code
def yX6_badHours : MethodName := ⟨RX6, "badHours", "(I)I"⟩
abbrev cX6_badHoursOneByOne : ByteArray := prog_1_method_24_code
def yX6_badHoursOneByOne : MethodName := ⟨RX6, "badHoursOneByOne", "(I)I"⟩
abbrev cX6_firstBad : ByteArray := prog_1_method_25_code
def yX6_firstBad : MethodName := ⟨RX6, "firstBad", "(I)I"⟩
abbrev cX6_reasons : ByteArray := prog_1_method_26_code
def yX6_reasons : MethodName := ⟨RX6, "reasons", "(I)I"⟩
abbrev cX6_needScope : ByteArray := prog_1_method_27_code
def yX6_needScope : MethodName := ⟨RX6, "needScope", "(I)V"⟩
abbrev cX6_needLand : ByteArray := prog_1_method_28_code
def yX6_needLand : MethodName := ⟨RX6, "needLand", "(I)LFrostCalendar$Land;"⟩
abbrev cX6_needFreeze : ByteArray := prog_1_method_29_code
def yX6_needFreeze : MethodName := ⟨RX6, "needFreeze", "(I)LFrostCalendar$Freeze;"⟩
abbrev cX6_needChange : ByteArray := prog_1_method_30_code
def yX6_needChange : MethodName := ⟨RX6, "needChange", "(I)LFrostCalendar$Change;"⟩
abbrev cX6_needRange : ByteArray := prog_1_method_31_code
def yX6_needRange : MethodName := ⟨RX6, "needRange", "(III)V"⟩
abbrev cX6_needPlanned : ByteArray := prog_1_method_32_code
def yX6_needPlanned : MethodName := ⟨RX6, "needPlanned", "(LFrostCalendar$Change;)V"⟩
abbrev cX6_needRoomForFreeze : ByteArray := prog_1_method_33_code
def yX6_needRoomForFreeze : MethodName := ⟨RX6, "needRoomForFreeze", "()V"⟩
abbrev cX6_isInSet : ByteArray := prog_1_method_34_code
def yX6_isInSet : MethodName := ⟨RX6, "isInSet", "(II)Z"⟩
abbrev cX6_lay : ByteArray := prog_1_method_35_code
def yX6_lay : MethodName := ⟨RX6, "lay", "(LFrostCalendar$Freeze;)I"⟩
abbrev cX6_isOneInTheOther : ByteArray := prog_1_method_36_code
def yX6_isOneInTheOther : MethodName := ⟨RX6, "isOneInTheOther", "(II)Z"⟩
abbrev cX6_freezesTouchingScope : ByteArray := prog_1_method_37_code
def yX6_freezesTouchingScope : MethodName := ⟨RX6, "freezesTouchingScope", "(I)I"⟩
abbrev cX6_freezesTouchingChange : ByteArray := prog_1_method_38_code
def yX6_freezesTouchingChange : MethodName := ⟨RX6, "freezesTouchingChange", "(LFrostCalendar$Change;)I"⟩
abbrev cX6_freezesAgainst : ByteArray := prog_1_method_39_code
def yX6_freezesAgainst : MethodName := ⟨RX6, "freezesAgainst", "(LFrostCalendar$Change;)I"⟩
abbrev cX6_holdingAmong : ByteArray := prog_1_method_40_code
def yX6_holdingAmong : MethodName := ⟨RX6, "holdingAmong", "(II)I"⟩
abbrev cX6_countBadHours : ByteArray := prog_1_method_41_code
def yX6_countBadHours : MethodName := ⟨RX6, "countBadHours", "(LFrostCalendar$Change;)I"⟩
abbrev cX6_markBadHours : ByteArray := prog_1_method_42_code
def yX6_markBadHours : MethodName := ⟨RX6, "markBadHours", "(LFrostCalendar$Change;LFrostCalendar$Freeze;)I"⟩
abbrev cX6_firstBadHour : ByteArray := prog_1_method_43_code
def yX6_firstBadHour : MethodName := ⟨RX6, "firstBadHour", "(LFrostCalendar$Change;)I"⟩
abbrev cX6_rankToSpend : ByteArray := prog_1_method_44_code
def yX6_rankToSpend : MethodName := ⟨RX6, "rankToSpend", "(I)I"⟩
def RX7 : String := "FrostCalendarModel"
def TX7 : u_T := fun k => match k with
  | _ => ("", "", "", false)
def tyX7 : Nat → FieldType := fun k => match k with
  | _ => .int
abbrev wsX70 : List Cond := u_ws RX7 TX7 0
theorem nmX7 : ∀ a, a < 0 → ∀ b, b < 0 → a ≠ b → (TX7 a).2.1 ≠ (TX7 b).2.1 := by decide +kernel
theorem tyX7_ok : ∀ k, k < 0 → parseFieldDescriptor (TX7 k).2.2.1 = some (tyX7 k) := by decide +kernel
def RJx145de : String := "java/io/Serializable"
def TJx145de : u_T := fun k => match k with
  | _ => ("", "", "", false)
def tyJx145de : Nat → FieldType := fun k => match k with
  | _ => .int
abbrev wsJx145de0 : List Cond := u_ws RJx145de TJx145de 0
theorem nmJx145de : ∀ a, a < 0 → ∀ b, b < 0 → a ≠ b → (TJx145de a).2.1 ≠ (TJx145de b).2.1 := by decide +kernel
theorem tyJx145de_ok : ∀ k, k < 0 → parseFieldDescriptor (TJx145de k).2.2.1 = some (tyJx145de k) := by decide +kernel
def RJ9 : String := "java/lang/Math"
def TJ9 : u_T := fun k => match k with
  | _ => ("", "", "", false)
def tyJ9 : Nat → FieldType := fun k => match k with
  | _ => .int
abbrev wsJ90 : List Cond := u_ws RJ9 TJ9 0
theorem nmJ9 : ∀ a, a < 0 → ∀ b, b < 0 → a ≠ b → (TJ9 a).2.1 ≠ (TJ9 b).2.1 := by decide +kernel
theorem tyJ9_ok : ∀ k, k < 0 → parseFieldDescriptor (TJ9 k).2.2.1 = some (tyJ9 k) := by decide +kernel
abbrev cJ9_floorDiv_7cf53 : ByteArray := prog_15_method_47_code
def yJ9_floorDiv_7cf53 : MethodName := ⟨RJ9, "floorDiv", "(II)I"⟩
abbrev cJ9_floorMod_7cf53 : ByteArray := prog_15_method_50_code
def yJ9_floorMod_7cf53 : MethodName := ⟨RJ9, "floorMod", "(II)I"⟩
def RJ0 : String := "java/lang/String"
def TJ0 : u_T := fun k => match k with
  | _ => ("", "", "", false)
def tyJ0 : Nat → FieldType := fun k => match k with
  | _ => .int
abbrev wsJ00 : List Cond := u_ws RJ0 TJ0 0
theorem nmJ0 : ∀ a, a < 0 → ∀ b, b < 0 → a ≠ b → (TJ0 a).2.1 ≠ (TJ0 b).2.1 := by decide +kernel
theorem tyJ0_ok : ∀ k, k < 0 → parseFieldDescriptor (TJ0 k).2.2.1 = some (tyJ0 k) := by decide +kernel
def RL : String := "FrostCalendarLaw"
abbrev cL_cell : ByteArray := method_2_code
def yL_cell : MethodName := ⟨RL, "cell", "([II)I"⟩
abbrev cL_low : ByteArray := method_3_code
def yL_low : MethodName := ⟨RL, "low", "(II)I"⟩
abbrev cL_holds : ByteArray := method_4_code
def yL_holds : MethodName := ⟨RL, "holds", "([III[I[I)Z"⟩
abbrev cL_touches : ByteArray := method_5_code
def yL_touches : MethodName := ⟨RL, "touches", "(II[I)Z"⟩
abbrev cL_against : ByteArray := method_6_code
def yL_against : MethodName := ⟨RL, "against", "([II[II[I)Z"⟩
abbrev cL_bad : ByteArray := method_7_code
def yL_bad : MethodName := ⟨RL, "bad", "([I[II[I[I[I[I)I"⟩
abbrev cL_refused : ByteArray := method_8_code
def yL_refused : MethodName := ⟨RL, "refused", "(LFrostCalendar;III)I"⟩
abbrev cL_change : ByteArray := method_9_code
def yL_change : MethodName := ⟨RL, "change", "(LFrostCalendar;I[I[I[I[I[I[I)Z"⟩
abbrev cL_law : ByteArray := code
def yL_law : MethodName := ⟨RL, "law", "([I)Z"⟩
theorem inJx145de : ∀ w ∈ wsJx145de0, w ∈ lw_tbl := by decide +kernel
theorem inJ9 : ∀ w ∈ wsJ90, w ∈ lw_tbl := by decide +kernel
theorem inJ0 : ∀ w ∈ wsJ00, w ∈ lw_tbl := by decide +kernel
abbrev vwCl : List vw_C := [(RX0, TX0, 8), (RX2, TX2, 5), (RX3, TX3, 3), (RX4, TX4, 4), (RX5, TX5, 2), (RX6, TX6, 11)]
