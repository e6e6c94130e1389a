def RX0 : String := "Dronegrade$Band"
def TX0 : u_T := fun k => match k with
  | 0 => ("Dronegrade$Band", "number", "I", true)
  | 1 => ("Dronegrade$Band", "marks", "[I", true)
  | 2 => ("Dronegrade$Band", "places", "[I", true)
  | 3 => ("Dronegrade$Band", "grade", "I", false)
  | 4 => ("Dronegrade$Band", "nextGrade", "I", false)
  | 5 => ("Dronegrade$Band", "points", "I", false)
  | 6 => ("Dronegrade$Band", "rank", "I", false)
  | 7 => ("Dronegrade$Band", "sum", "I", false)
  | 8 => ("Dronegrade$Band", "firsts", "I", false)
  | _ => ("Dronegrade$Band", "takesPart", "Z", false)
def tyX0 : Nat → FieldType := fun k => match k with
  | 0 => .int
  | 1 => .array .int
  | 2 => .array .int
  | 3 => .int
  | 4 => .int
  | 5 => .int
  | 6 => .int
  | 7 => .int
  | 8 => .int
  | _ => .boolean
abbrev wsX00 : List Cond := u_ws RX0 TX0 10
theorem nmX0 : ∀ a, a < 10 → ∀ b, b < 10 → a ≠ b → (TX0 a).2.1 ≠ (TX0 b).2.1 := by decide +kernel
theorem tyX0_ok : ∀ k, k < 10 → parseFieldDescriptor (TX0 k).2.2.1 = some (tyX0 k) := by decide +kernel
abbrev cX0_init : ByteArray := prog_2_method_1_code
def yX0_init : MethodName := ⟨RX0, "<init>", "(II)V"⟩
abbrev cX0_forgetMarks : ByteArray := prog_2_method_2_code
def yX0_forgetMarks : MethodName := ⟨RX0, "forgetMarks", "()V"⟩
abbrev cX0_markBy : ByteArray := prog_2_method_3_code
def yX0_markBy : MethodName := ⟨RX0, "markBy", "(I)I"⟩
abbrev cX0_takeMark : ByteArray := prog_2_method_4_code
def yX0_takeMark : MethodName := ⟨RX0, "takeMark", "(II)V"⟩
abbrev cX0_placeBy : ByteArray := prog_2_method_5_code
def yX0_placeBy : MethodName := ⟨RX0, "placeBy", "(I)I"⟩
abbrev cX0_takePlace : ByteArray := prog_2_method_6_code
def yX0_takePlace : MethodName := ⟨RX0, "takePlace", "(II)V"⟩
abbrev cX0_forgetResult : ByteArray := prog_2_method_7_code
def yX0_forgetResult : MethodName := ⟨RX0, "forgetResult", "()V"⟩
abbrev cX0_takeRank : ByteArray := prog_2_method_8_code
def yX0_takeRank : MethodName := ⟨RX0, "takeRank", "(I)V"⟩
abbrev cX0_isRankedAheadOf : ByteArray := prog_2_method_9_code
def yX0_isRankedAheadOf : MethodName := ⟨RX0, "isRankedAheadOf", "(LDronegrade$Band;)Z"⟩
abbrev cX0_beginSeason : ByteArray := prog_2_method_10_code
def yX0_beginSeason : MethodName := ⟨RX0, "beginSeason", "()Z"⟩
abbrev cX0_tell : ByteArray := prog_2_method_11_code
def yX0_tell : MethodName := ⟨RX0, "tell", "(I)I"⟩
def RX1 : String := "Dronegrade$Piper"
def TX1 : u_T := fun k => match k with
  | 0 => ("Dronegrade$Piper", "reed", "I", false)
  | 1 => ("Dronegrade$Piper", "pressure", "I", false)
  | 2 => ("Dronegrade$Piper", "breath", "I", false)
  | 3 => ("Dronegrade$Piper", "seat", "I", false)
  | 4 => ("Dronegrade$Piper", "warmth", "I", false)
  | 5 => ("Dronegrade$Piper", "wet", "I", false)
  | _ => ("Dronegrade$Piper", "isResting", "Z", false)
def tyX1 : Nat → FieldType := fun k => match k with
  | 0 => .int
  | 1 => .int
  | 2 => .int
  | 3 => .int
  | 4 => .int
  | 5 => .int
  | _ => .boolean
abbrev wsX10 : List Cond := u_ws RX1 TX1 7
theorem nmX1 : ∀ a, a < 7 → ∀ b, b < 7 → a ≠ b → (TX1 a).2.1 ≠ (TX1 b).2.1 := by decide +kernel
theorem tyX1_ok : ∀ k, k < 7 → parseFieldDescriptor (TX1 k).2.2.1 = some (tyX1 k) := by decide +kernel
abbrev cX1_init : ByteArray := prog_3_method_1_code
def yX1_init : MethodName := ⟨RX1, "<init>", "(III)V"⟩
abbrev cX1_becomeLike : ByteArray := prog_3_method_2_code
def yX1_becomeLike : MethodName := ⟨RX1, "becomeLike", "(LDronegrade$Piper;)V"⟩
abbrev cX1_pitch : ByteArray := prog_3_method_3_code
def yX1_pitch : MethodName := ⟨RX1, "pitch", "()I"⟩
abbrev cX1_goThrough : ByteArray := prog_3_method_4_code
def yX1_goThrough : MethodName := ⟨RX1, "goThrough", "(III)V"⟩
abbrev cX1_restAMinute : ByteArray := prog_3_method_5_code
def yX1_restAMinute : MethodName := ⟨RX1, "restAMinute", "()V"⟩
abbrev cX1_playAMinute : ByteArray := prog_3_method_6_code
def yX1_playAMinute : MethodName := ⟨RX1, "playAMinute", "(II)V"⟩
abbrev cX1_tell : ByteArray := prog_3_method_7_code
def yX1_tell : MethodName := ⟨RX1, "tell", "(I)I"⟩
def RX2 : String := "Dronegrade$Pitches"
def TX2 : u_T := fun k => match k with
  | 0 => ("Dronegrade$Pitches", "row", "[I", true)
  | _ => ("Dronegrade$Pitches", "count", "I", false)
def tyX2 : Nat → FieldType := fun k => match k with
  | 0 => .array .int
  | _ => .int
abbrev wsX20 : List Cond := u_ws RX2 TX2 2
theorem nmX2 : ∀ a, a < 2 → ∀ b, b < 2 → a ≠ b → (TX2 a).2.1 ≠ (TX2 b).2.1 := by decide +kernel
theorem tyX2_ok : ∀ k, k < 2 → parseFieldDescriptor (TX2 k).2.2.1 = some (tyX2 k) := by decide +kernel
abbrev cX2_init : ByteArray := prog_4_method_1_code
def yX2_init : MethodName := ⟨RX2, "<init>", "()V"⟩
abbrev cX2_empty : ByteArray := prog_4_method_2_code
def yX2_empty : MethodName := ⟨RX2, "empty", "()V"⟩
abbrev cX2_put : ByteArray := prog_4_method_3_code
def yX2_put : MethodName := ⟨RX2, "put", "(I)V"⟩
abbrev cX2_range : ByteArray := prog_4_method_4_code
def yX2_range : MethodName := ⟨RX2, "range", "()I"⟩
abbrev cX2_middle : ByteArray := prog_4_method_5_code
def yX2_middle : MethodName := ⟨RX2, "middle", "()I"⟩
def RX3 : String := "Dronegrade$Tune"
def TX3 : u_T := fun k => match k with
  | 0 => ("Dronegrade$Tune", "number", "I", true)
  | 1 => ("Dronegrade$Tune", "kind", "I", true)
  | 2 => ("Dronegrade$Tune", "heights", "[I", true)
  | 3 => ("Dronegrade$Tune", "lengths", "[I", true)
  | 4 => ("Dronegrade$Tune", "graces", "[I", true)
  | 5 => ("Dronegrade$Tune", "parts", "[I", true)
  | 6 => ("Dronegrade$Tune", "playedNotes", "[I", true)
  | 7 => ("Dronegrade$Tune", "writtenCount", "I", false)
  | 8 => ("Dronegrade$Tune", "firstOpen", "I", false)
  | 9 => ("Dronegrade$Tune", "openUnits", "I", false)
  | 10 => ("Dronegrade$Tune", "partCount", "I", false)
  | _ => ("Dronegrade$Tune", "playedCount", "I", false)
def tyX3 : Nat → FieldType := fun k => match k with
  | 0 => .int
  | 1 => .int
  | 2 => .array .int
  | 3 => .array .int
  | 4 => .array .int
  | 5 => .array .int
  | 6 => .array .int
  | 7 => .int
  | 8 => .int
  | 9 => .int
  | 10 => .int
  | _ => .int
abbrev wsX30 : List Cond := u_ws RX3 TX3 12
theorem nmX3 : ∀ a, a < 12 → ∀ b, b < 12 → a ≠ b → (TX3 a).2.1 ≠ (TX3 b).2.1 := by decide +kernel
theorem tyX3_ok : ∀ k, k < 12 → parseFieldDescriptor (TX3 k).2.2.1 = some (tyX3 k) := by decide +kernel
abbrev cX3_init : ByteArray := prog_5_method_1_code
def yX3_init : MethodName := ⟨RX3, "<init>", "(II)V"⟩
abbrev cX3_barUnits : ByteArray := prog_5_method_2_code
def yX3_barUnits : MethodName := ⟨RX3, "barUnits", "()I"⟩
abbrev cX3_canTake : ByteArray := prog_5_method_3_code
def yX3_canTake : MethodName := ⟨RX3, "canTake", "(III)Z"⟩
abbrev cX3_openBars : ByteArray := prog_5_method_4_code
def yX3_openBars : MethodName := ⟨RX3, "openBars", "()I"⟩
abbrev cX3_unitsInOpenBar : ByteArray := prog_5_method_5_code
def yX3_unitsInOpenBar : MethodName := ⟨RX3, "unitsInOpenBar", "()I"⟩
abbrev cX3_isLawful : ByteArray := prog_5_method_6_code
def yX3_isLawful : MethodName := ⟨RX3, "isLawful", "(II)Z"⟩
abbrev cX3_lastWrittenHeight : ByteArray := prog_5_method_7_code
def yX3_lastWrittenHeight : MethodName := ⟨RX3, "lastWrittenHeight", "()I"⟩
abbrev cX3_write : ByteArray := prog_5_method_8_code
def yX3_write : MethodName := ⟨RX3, "write", "(III)I"⟩
abbrev cX3_canEndPart : ByteArray := prog_5_method_9_code
def yX3_canEndPart : MethodName := ⟨RX3, "canEndPart", "()Z"⟩
abbrev cX3_endPart : ByteArray := prog_5_method_10_code
def yX3_endPart : MethodName := ⟨RX3, "endPart", "(Z)I"⟩
abbrev cX3_playOpenNotes : ByteArray := prog_5_method_11_code
def yX3_playOpenNotes : MethodName := ⟨RX3, "playOpenNotes", "()V"⟩
abbrev cX3_ofPlayed : ByteArray := prog_5_method_12_code
def yX3_ofPlayed : MethodName := ⟨RX3, "ofPlayed", "([II)I"⟩
abbrev cX3_heightAt : ByteArray := prog_5_method_13_code
def yX3_heightAt : MethodName := ⟨RX3, "heightAt", "(I)I"⟩
abbrev cX3_graceAt : ByteArray := prog_5_method_14_code
def yX3_graceAt : MethodName := ⟨RX3, "graceAt", "(I)I"⟩
abbrev cX3_unitsAhead : ByteArray := prog_5_method_15_code
def yX3_unitsAhead : MethodName := ⟨RX3, "unitsAhead", "(I)I"⟩
abbrev cX3_unitsPlayed : ByteArray := prog_5_method_16_code
def yX3_unitsPlayed : MethodName := ⟨RX3, "unitsPlayed", "()I"⟩
abbrev cX3_tellPlayed : ByteArray := prog_5_method_17_code
def yX3_tellPlayed : MethodName := ⟨RX3, "tellPlayed", "(II)I"⟩
abbrev cX3_tell : ByteArray := prog_5_method_18_code
def yX3_tell : MethodName := ⟨RX3, "tell", "(I)I"⟩
abbrev cX3_clashes : ByteArray := prog_5_method_19_code
def yX3_clashes : MethodName := ⟨RX3, "clashes", "()I"⟩
abbrev cX3_smallNotes : ByteArray := prog_5_method_20_code
def yX3_smallNotes : MethodName := ⟨RX3, "smallNotes", "()I"⟩
abbrev cX3_smallNotesOf : ByteArray := prog_5_method_21_code
def yX3_smallNotesOf : MethodName := ⟨RX3, "smallNotesOf", "(I)I"⟩
abbrev cX3_likenessByShifts : ByteArray := prog_5_method_22_code
def yX3_likenessByShifts : MethodName := ⟨RX3, "likenessByShifts", "(LDronegrade$Tune;)I"⟩
abbrev cX3_likenessByBeginnings : ByteArray := prog_5_method_23_code
def yX3_likenessByBeginnings : MethodName := ⟨RX3, "likenessByBeginnings", "(LDronegrade$Tune;)I"⟩
abbrev cX3_runFrom : ByteArray := prog_5_method_24_code
def yX3_runFrom : MethodName := ⟨RX3, "runFrom", "(ILDronegrade$Tune;I)I"⟩
def RX4 : String := "Dronegrade"
def TX4 : u_T := fun k => match k with
  | 0 => ("Dronegrade", "tunes", "Ljava/util/ArrayList;", true)
  | 1 => ("Dronegrade", "set", "Ljava/util/ArrayList;", true)
  | 2 => ("Dronegrade", "tempi", "[I", true)
  | 3 => ("Dronegrade", "pipers", "Ljava/util/ArrayList;", true)
  | 4 => ("Dronegrade", "trial", "LDronegrade$Piper;", true)
  | 5 => ("Dronegrade", "pitches", "LDronegrade$Pitches;", true)
  | 6 => ("Dronegrade", "bands", "Ljava/util/ArrayList;", true)
  | 7 => ("Dronegrade", "isContestOpen", "Z", false)
  | _ => ("Dronegrade", "missingMarks", "I", false)
def tyX4 : Nat → FieldType := fun k => match k with
  | 0 => .object "java/util/ArrayList"
  | 1 => .object "java/util/ArrayList"
  | 2 => .array .int
  | 3 => .object "java/util/ArrayList"
  | 4 => .object "Dronegrade$Piper"
  | 5 => .object "Dronegrade$Pitches"
  | 6 => .object "java/util/ArrayList"
  | 7 => .boolean
  | _ => .int
abbrev wsX40 : List Cond := u_ws RX4 TX4 9
theorem nmX4 : ∀ a, a < 9 → ∀ b, b < 9 → a ≠ b → (TX4 a).2.1 ≠ (TX4 b).2.1 := by decide +kernel
theorem tyX4_ok : ∀ k, k < 9 → parseFieldDescriptor (TX4 k).2.2.1 = some (tyX4 k) := by decide +kernel
abbrev cX4_init : ByteArray := prog_1_method_1_code
def yX4_init : MethodName := ⟨RX4, "<init>", "()V"⟩
abbrev cX4_tune : ByteArray := prog_1_method_2_code
def yX4_tune : MethodName := ⟨RX4, "tune", "(I)I"⟩
abbrev cX4_note : ByteArray := prog_1_method_3_code
def yX4_note : MethodName := ⟨RX4, "note", "(IIII)I"⟩
abbrev cX4_part : ByteArray := prog_1_method_4_code
def yX4_part : MethodName := ⟨RX4, "part", "(IZ)I"⟩
abbrev cX4_played : ByteArray := prog_1_method_5_code
def yX4_played : MethodName := ⟨RX4, "played", "(III)I"⟩
abbrev cX4_ofTune : ByteArray := prog_1_method_6_code
def yX4_ofTune : MethodName := ⟨RX4, "ofTune", "(II)I"⟩
abbrev cX4_alike : ByteArray := prog_1_method_7_code
def yX4_alike : MethodName := ⟨RX4, "alike", "(II)I"⟩
abbrev cX4_alikeAnew : ByteArray := prog_1_method_8_code
def yX4_alikeAnew : MethodName := ⟨RX4, "alikeAnew", "(II)I"⟩
abbrev cX4_tuneOfNumber : ByteArray := prog_1_method_9_code
def yX4_tuneOfNumber : MethodName := ⟨RX4, "tuneOfNumber", "(I)LDronegrade$Tune;"⟩
abbrev cX4_follow : ByteArray := prog_1_method_10_code
def yX4_follow : MethodName := ⟨RX4, "follow", "(II)I"⟩
abbrev cX4_drop : ByteArray := prog_1_method_11_code
def yX4_drop : MethodName := ⟨RX4, "drop", "()I"⟩
abbrev cX4_time : ByteArray := prog_1_method_12_code
def yX4_time : MethodName := ⟨RX4, "time", "()J"⟩
abbrev cX4_mayFollow : ByteArray := prog_1_method_13_code
def yX4_mayFollow : MethodName := ⟨RX4, "mayFollow", "(LDronegrade$Tune;I)Z"⟩
abbrev cX4_piper : ByteArray := prog_1_method_14_code
def yX4_piper : MethodName := ⟨RX4, "piper", "(III)I"⟩
abbrev cX4_seat : ByteArray := prog_1_method_15_code
def yX4_seat : MethodName := ⟨RX4, "seat", "(II)I"⟩
abbrev cX4_rest : ByteArray := prog_1_method_16_code
def yX4_rest : MethodName := ⟨RX4, "rest", "(IZ)Z"⟩
abbrev cX4_play : ByteArray := prog_1_method_17_code
def yX4_play : MethodName := ⟨RX4, "play", "(III)I"⟩
abbrev cX4_ofPiper : ByteArray := prog_1_method_18_code
def yX4_ofPiper : MethodName := ⟨RX4, "ofPiper", "(II)I"⟩
abbrev cX4_spread : ByteArray := prog_1_method_19_code
def yX4_spread : MethodName := ⟨RX4, "spread", "()I"⟩
abbrev cX4_odd : ByteArray := prog_1_method_20_code
def yX4_odd : MethodName := ⟨RX4, "odd", "()I"⟩
abbrev cX4_beats : ByteArray := prog_1_method_21_code
def yX4_beats : MethodName := ⟨RX4, "beats", "(II)F"⟩
abbrev cX4_ahead : ByteArray := prog_1_method_22_code
def yX4_ahead : MethodName := ⟨RX4, "ahead", "(III)I"⟩
abbrev cX4_piperOfNumber : ByteArray := prog_1_method_23_code
def yX4_piperOfNumber : MethodName := ⟨RX4, "piperOfNumber", "(I)LDronegrade$Piper;"⟩
abbrev cX4_isWeather : ByteArray := prog_1_method_24_code
def yX4_isWeather : MethodName := ⟨RX4, "isWeather", "(III)Z"⟩
abbrev cX4_gatherPitchesWithout : ByteArray := prog_1_method_25_code
def yX4_gatherPitchesWithout : MethodName := ⟨RX4, "gatherPitchesWithout", "(I)V"⟩
abbrev cX4_spreadWithout : ByteArray := prog_1_method_26_code
def yX4_spreadWithout : MethodName := ⟨RX4, "spreadWithout", "(I)I"⟩
abbrev cX4_seatToMiddle : ByteArray := prog_1_method_27_code
def yX4_seatToMiddle : MethodName := ⟨RX4, "seatToMiddle", "(LDronegrade$Piper;)I"⟩
abbrev cX4_band : ByteArray := prog_1_method_28_code
def yX4_band : MethodName := ⟨RX4, "band", "(I)I"⟩
abbrev cX4_contest : ByteArray := prog_1_method_29_code
def yX4_contest : MethodName := ⟨RX4, "contest", "(I)I"⟩
abbrev cX4_mark : ByteArray := prog_1_method_30_code
def yX4_mark : MethodName := ⟨RX4, "mark", "(III)I"⟩
abbrev cX4_close : ByteArray := prog_1_method_31_code
def yX4_close : MethodName := ⟨RX4, "close", "()I"⟩
abbrev cX4_season : ByteArray := prog_1_method_32_code
def yX4_season : MethodName := ⟨RX4, "season", "()I"⟩
abbrev cX4_ofBand : ByteArray := prog_1_method_33_code
def yX4_ofBand : MethodName := ⟨RX4, "ofBand", "(II)I"⟩
abbrev cX4_bandOfNumber : ByteArray := prog_1_method_34_code
def yX4_bandOfNumber : MethodName := ⟨RX4, "bandOfNumber", "(I)LDronegrade$Band;"⟩
abbrev cX4_bandsOfGrade : ByteArray := prog_1_method_35_code
def yX4_bandsOfGrade : MethodName := ⟨RX4, "bandsOfGrade", "(I)I"⟩
abbrev cX4_findPlaces : ByteArray := prog_1_method_36_code
def yX4_findPlaces : MethodName := ⟨RX4, "findPlaces", "(LDronegrade$Band;)V"⟩
abbrev cX4_rankBands : ByteArray := prog_1_method_37_code
def yX4_rankBands : MethodName := ⟨RX4, "rankBands", "()I"⟩
abbrev cX4_bandsAheadOf : ByteArray := prog_1_method_38_code
def yX4_bandsAheadOf : MethodName := ⟨RX4, "bandsAheadOf", "(LDronegrade$Band;)I"⟩
abbrev cX4_sendUpFrom : ByteArray := prog_1_method_39_code
def yX4_sendUpFrom : MethodName := ⟨RX4, "sendUpFrom", "(I)V"⟩
abbrev cX4_sendDownFrom : ByteArray := prog_1_method_40_code
def yX4_sendDownFrom : MethodName := ⟨RX4, "sendDownFrom", "(I)V"⟩
abbrev cX4_isWithin : ByteArray := prog_1_method_41_code
def yX4_isWithin : MethodName := ⟨RX4, "isWithin", "(III)Z"⟩
def RX5 : String := "DronegradeModel"
def TX5 : u_T := fun k => match k with
  | _ => ("", "", "", false)
def tyX5 : Nat → FieldType := fun k => match k with
  | _ => .int
abbrev wsX50 : List Cond := u_ws RX5 TX5 0
theorem nmX5 : ∀ a, a < 0 → ∀ b, b < 0 → a ≠ b → (TX5 a).2.1 ≠ (TX5 b).2.1 := by decide +kernel
theorem tyX5_ok : ∀ k, k < 0 → parseFieldDescriptor (TX5 k).2.2.1 = some (tyX5 k) := by decide +kernel
def RJx145de : String := "java/io/Serializable"
def TJx145de : u_T := fun k => match k with
  | _ => ("", "", "", false)
def tyJx145de : Nat → FieldType := fun k => match k with
  | _ => .int
abbrev wsJx145de0 : List Cond := u_ws RJx145de TJx145de 0
theorem nmJx145de : ∀ a, a < 0 → ∀ b, b < 0 → a ≠ b → (TJx145de a).2.1 ≠ (TJx145de b).2.1 := by decide +kernel
theorem tyJx145de_ok : ∀ k, k < 0 → parseFieldDescriptor (TJx145de k).2.2.1 = some (tyJx145de k) := by decide +kernel
def RJx8e188 : String := "java/lang/Cloneable"
def TJx8e188 : u_T := fun k => match k with
  | _ => ("", "", "", false)
def tyJx8e188 : Nat → FieldType := fun k => match k with
  | _ => .int
abbrev wsJx8e1880 : List Cond := u_ws RJx8e188 TJx8e188 0
theorem nmJx8e188 : ∀ a, a < 0 → ∀ b, b < 0 → a ≠ b → (TJx8e188 a).2.1 ≠ (TJx8e188 b).2.1 := by decide +kernel
theorem tyJx8e188_ok : ∀ k, k < 0 → parseFieldDescriptor (TJx8e188 k).2.2.1 = some (tyJx8e188 k) := by decide +kernel
def RJxab1ab : String := "java/lang/Iterable"
def TJxab1ab : u_T := fun k => match k with
  | _ => ("", "", "", false)
def tyJxab1ab : Nat → FieldType := fun k => match k with
  | _ => .int
abbrev wsJxab1ab0 : List Cond := u_ws RJxab1ab TJxab1ab 0
theorem nmJxab1ab : ∀ a, a < 0 → ∀ b, b < 0 → a ≠ b → (TJxab1ab a).2.1 ≠ (TJxab1ab b).2.1 := by decide +kernel
theorem tyJxab1ab_ok : ∀ k, k < 0 → parseFieldDescriptor (TJxab1ab k).2.2.1 = some (tyJxab1ab k) := by decide +kernel
def RJ9 : String := "java/lang/Math"
def TJ9 : u_T := fun k => match k with
  | _ => ("", "", "", false)
def tyJ9 : Nat → FieldType := fun k => match k with
  | _ => .int
abbrev wsJ90 : List Cond := u_ws RJ9 TJ9 0
theorem nmJ9 : ∀ a, a < 0 → ∀ b, b < 0 → a ≠ b → (TJ9 a).2.1 ≠ (TJ9 b).2.1 := by decide +kernel
theorem tyJ9_ok : ∀ k, k < 0 → parseFieldDescriptor (TJ9 k).2.2.1 = some (tyJ9 k) := by decide +kernel
abbrev cJ9_abs_0f7a4 : ByteArray := prog_15_method_59_code
def yJ9_abs_0f7a4 : MethodName := ⟨RJ9, "abs", "(I)I"⟩
abbrev cJ9_max_7cf53 : ByteArray := prog_15_method_65_code
def yJ9_max_7cf53 : MethodName := ⟨RJ9, "max", "(II)I"⟩
abbrev cJ9_min_7cf53 : ByteArray := prog_15_method_69_code
def yJ9_min_7cf53 : MethodName := ⟨RJ9, "min", "(II)I"⟩
def RJ0 : String := "java/lang/String"
def TJ0 : u_T := fun k => match k with
  | _ => ("", "", "", false)
def tyJ0 : Nat → FieldType := fun k => match k with
  | _ => .int
abbrev wsJ00 : List Cond := u_ws RJ0 TJ0 0
theorem nmJ0 : ∀ a, a < 0 → ∀ b, b < 0 → a ≠ b → (TJ0 a).2.1 ≠ (TJ0 b).2.1 := by decide +kernel
theorem tyJ0_ok : ∀ k, k < 0 → parseFieldDescriptor (TJ0 k).2.2.1 = some (tyJ0 k) := by decide +kernel
def RJ10 : String := "java/lang/System"
def TJ10 : u_T := fun k => match k with
  | _ => ("", "", "", false)
def tyJ10 : Nat → FieldType := fun k => match k with
  | _ => .int
abbrev wsJ100 : List Cond := u_ws RJ10 TJ10 0
theorem nmJ10 : ∀ a, a < 0 → ∀ b, b < 0 → a ≠ b → (TJ10 a).2.1 ≠ (TJ10 b).2.1 := by decide +kernel
theorem tyJ10_ok : ∀ k, k < 0 → parseFieldDescriptor (TJ10 k).2.2.1 = some (tyJ10 k) := by decide +kernel
def RJxa1e45 : String := "java/util/AbstractCollection"
def TJxa1e45 : u_T := fun k => match k with
  | _ => ("", "", "", false)
def tyJxa1e45 : Nat → FieldType := fun k => match k with
  | _ => .int
abbrev wsJxa1e450 : List Cond := u_ws RJxa1e45 TJxa1e45 0
theorem nmJxa1e45 : ∀ a, a < 0 → ∀ b, b < 0 → a ≠ b → (TJxa1e45 a).2.1 ≠ (TJxa1e45 b).2.1 := by decide +kernel
theorem tyJxa1e45_ok : ∀ k, k < 0 → parseFieldDescriptor (TJxa1e45 k).2.2.1 = some (tyJxa1e45 k) := by decide +kernel
abbrev cJxa1e45_init_da8c8 : ByteArray := prog_20_method_1_code
def yJxa1e45_init_da8c8 : MethodName := ⟨RJxa1e45, "<init>", "()V"⟩
def RJxc12de : String := "java/util/AbstractList"
def TJxc12de : u_T := fun k => match k with
  | _ => ("", "", "", false)
def tyJxc12de : Nat → FieldType := fun k => match k with
  | _ => .int
abbrev wsJxc12de0 : List Cond := u_ws RJxc12de TJxc12de 0
theorem nmJxc12de : ∀ a, a < 0 → ∀ b, b < 0 → a ≠ b → (TJxc12de a).2.1 ≠ (TJxc12de b).2.1 := by decide +kernel
theorem tyJxc12de_ok : ∀ k, k < 0 → parseFieldDescriptor (TJxc12de k).2.2.1 = some (tyJxc12de k) := by decide +kernel
abbrev cJxc12de_init_da8c8 : ByteArray := prog_21_method_1_code
def yJxc12de_init_da8c8 : MethodName := ⟨RJxc12de, "<init>", "()V"⟩
def RJx4a65c : String := "java/util/ArrayList"
def TJx4a65c : u_T := fun k => match k with
  | 0 => ("java/util/AbstractList", "modCount", "I", false)
  | 1 => ("java/util/ArrayList", "elementData", "[Ljava/lang/Object;", false)
  | _ => ("java/util/ArrayList", "size", "I", false)
def tyJx4a65c : Nat → FieldType := fun k => match k with
  | 0 => .int
  | 1 => .array (.object "java/lang/Object")
  | _ => .int
abbrev wsJx4a65c0 : List Cond := u_ws RJx4a65c TJx4a65c 3
theorem nmJx4a65c : ∀ a, a < 3 → ∀ b, b < 3 → a ≠ b → (TJx4a65c a).2.1 ≠ (TJx4a65c b).2.1 := by decide +kernel
theorem tyJx4a65c_ok : ∀ k, k < 3 → parseFieldDescriptor (TJx4a65c k).2.2.1 = some (tyJx4a65c k) := by decide +kernel
abbrev cJx4a65c_init_da8c8 : ByteArray := prog_22_method_2_code
def yJx4a65c_init_da8c8 : MethodName := ⟨RJx4a65c, "<init>", "()V"⟩
abbrev cJx4a65c_grow_92f84 : ByteArray := prog_22_method_6_code
def yJx4a65c_grow_92f84 : MethodName := ⟨RJx4a65c, "grow", "(I)[Ljava/lang/Object;"⟩
abbrev cJx4a65c_grow_d5877 : ByteArray := prog_22_method_7_code
def yJx4a65c_grow_d5877 : MethodName := ⟨RJx4a65c, "grow", "()[Ljava/lang/Object;"⟩
abbrev cJx4a65c_size_8abf5 : ByteArray := prog_22_method_8_code
def yJx4a65c_size_8abf5 : MethodName := ⟨RJx4a65c, "size", "()I"⟩
abbrev cJx4a65c_elementData_915e3 : ByteArray := prog_22_method_18_code
def yJx4a65c_elementData_915e3 : MethodName := ⟨RJx4a65c, "elementData", "(I)Ljava/lang/Object;"⟩
abbrev cJx4a65c_get_915e3 : ByteArray := prog_22_method_20_code
def yJx4a65c_get_915e3 : MethodName := ⟨RJx4a65c, "get", "(I)Ljava/lang/Object;"⟩
abbrev cJx4a65c_add_72be8 : ByteArray := prog_22_method_24_code
def yJx4a65c_add_72be8 : MethodName := ⟨RJx4a65c, "add", "(Ljava/lang/Object;[Ljava/lang/Object;I)V"⟩
abbrev cJx4a65c_add_9ea2d : ByteArray := prog_22_method_25_code
def yJx4a65c_add_9ea2d : MethodName := ⟨RJx4a65c, "add", "(Ljava/lang/Object;)Z"⟩
abbrev cJx4a65c_remove_915e3 : ByteArray := prog_22_method_29_code
def yJx4a65c_remove_915e3 : MethodName := ⟨RJx4a65c, "remove", "(I)Ljava/lang/Object;"⟩
abbrev cJx4a65c_fastRemove_b59b0 : ByteArray := prog_22_method_39_code
def yJx4a65c_fastRemove_b59b0 : MethodName := ⟨RJx4a65c, "fastRemove", "([Ljava/lang/Object;I)V"⟩
def RJ7 : String := "java/util/Arrays"
def TJ7 : u_T := fun k => match k with
  | _ => ("", "", "", false)
def tyJ7 : Nat → FieldType := fun k => match k with
  | _ => .int
abbrev wsJ70 : List Cond := u_ws RJ7 TJ7 0
theorem nmJ7 : ∀ a, a < 0 → ∀ b, b < 0 → a ≠ b → (TJ7 a).2.1 ≠ (TJ7 b).2.1 := by decide +kernel
theorem tyJ7_ok : ∀ k, k < 0 → parseFieldDescriptor (TJ7 k).2.2.1 = some (tyJ7 k) := by decide +kernel
abbrev cJ7_copyOf_1904c : ByteArray := prog_23_method_119_code
def yJ7_copyOf_1904c : MethodName := ⟨RJ7, "copyOf", "([Ljava/lang/Object;I)[Ljava/lang/Object;"⟩
abbrev cJ7_copyOf_6403c : ByteArray := prog_23_method_120_code
def yJ7_copyOf_6403c : MethodName := ⟨RJ7, "copyOf", "([Ljava/lang/Object;ILjava/lang/Class;)[Ljava/lang/Object;"⟩
def RJx5ef63 : String := "java/util/Collection"
def TJx5ef63 : u_T := fun k => match k with
  | _ => ("", "", "", false)
def tyJx5ef63 : Nat → FieldType := fun k => match k with
  | _ => .int
abbrev wsJx5ef630 : List Cond := u_ws RJx5ef63 TJx5ef63 0
theorem nmJx5ef63 : ∀ a, a < 0 → ∀ b, b < 0 → a ≠ b → (TJx5ef63 a).2.1 ≠ (TJx5ef63 b).2.1 := by decide +kernel
theorem tyJx5ef63_ok : ∀ k, k < 0 → parseFieldDescriptor (TJx5ef63 k).2.2.1 = some (tyJx5ef63 k) := by decide +kernel
def RJxbd725 : String := "java/util/List"
def TJxbd725 : u_T := fun k => match k with
  | _ => ("", "", "", false)
def tyJxbd725 : Nat → FieldType := fun k => match k with
  | _ => .int
abbrev wsJxbd7250 : List Cond := u_ws RJxbd725 TJxbd725 0
theorem nmJxbd725 : ∀ a, a < 0 → ∀ b, b < 0 → a ≠ b → (TJxbd725 a).2.1 ≠ (TJxbd725 b).2.1 := by decide +kernel
theorem tyJxbd725_ok : ∀ k, k < 0 → parseFieldDescriptor (TJxbd725 k).2.2.1 = some (tyJxbd725 k) := by decide +kernel
def RJ15 : String := "java/util/Objects"
def TJ15 : u_T := fun k => match k with
  | _ => ("", "", "", false)
def tyJ15 : Nat → FieldType := fun k => match k with
  | _ => .int
abbrev wsJ150 : List Cond := u_ws RJ15 TJ15 0
theorem nmJ15 : ∀ a, a < 0 → ∀ b, b < 0 → a ≠ b → (TJ15 a).2.1 ≠ (TJ15 b).2.1 := by decide +kernel
theorem tyJ15_ok : ∀ k, k < 0 → parseFieldDescriptor (TJ15 k).2.2.1 = some (tyJ15 k) := by decide +kernel
abbrev cJ15_checkIndex_7cf53 : ByteArray := prog_26_method_17_code
def yJ15_checkIndex_7cf53 : MethodName := ⟨RJ15, "checkIndex", "(II)I"⟩
def RJxf0a74 : String := "java/util/RandomAccess"
def TJxf0a74 : u_T := fun k => match k with
  | _ => ("", "", "", false)
def tyJxf0a74 : Nat → FieldType := fun k => match k with
  | _ => .int
abbrev wsJxf0a740 : List Cond := u_ws RJxf0a74 TJxf0a74 0
theorem nmJxf0a74 : ∀ a, a < 0 → ∀ b, b < 0 → a ≠ b → (TJxf0a74 a).2.1 ≠ (TJxf0a74 b).2.1 := by decide +kernel
theorem tyJxf0a74_ok : ∀ k, k < 0 → parseFieldDescriptor (TJxf0a74 k).2.2.1 = some (tyJxf0a74 k) := by decide +kernel
def RJxa66e6 : String := "java/util/SequencedCollection"
def TJxa66e6 : u_T := fun k => match k with
  | _ => ("", "", "", false)
def tyJxa66e6 : Nat → FieldType := fun k => match k with
  | _ => .int
abbrev wsJxa66e60 : List Cond := u_ws RJxa66e6 TJxa66e6 0
theorem nmJxa66e6 : ∀ a, a < 0 → ∀ b, b < 0 → a ≠ b → (TJxa66e6 a).2.1 ≠ (TJxa66e6 b).2.1 := by decide +kernel
theorem tyJxa66e6_ok : ∀ k, k < 0 → parseFieldDescriptor (TJxa66e6 k).2.2.1 = some (tyJxa66e6 k) := by decide +kernel
def RJ8 : String := "jdk/internal/util/ArraysSupport"
def TJ8 : u_T := fun k => match k with
  | _ => ("", "", "", false)
def tyJ8 : Nat → FieldType := fun k => match k with
  | _ => .int
abbrev wsJ80 : List Cond := u_ws RJ8 TJ8 0
theorem nmJ8 : ∀ a, a < 0 → ∀ b, b < 0 → a ≠ b → (TJ8 a).2.1 ≠ (TJ8 b).2.1 := by decide +kernel
theorem tyJ8_ok : ∀ k, k < 0 → parseFieldDescriptor (TJ8 k).2.2.1 = some (tyJ8 k) := by decide +kernel
abbrev cJ8_newLength_cabcc : ByteArray := prog_29_method_27_code
def yJ8_newLength_cabcc : MethodName := ⟨RJ8, "newLength", "(III)I"⟩
abbrev cJ8_hugeLength_7cf53 : ByteArray := prog_29_method_28_code
def yJ8_hugeLength_7cf53 : MethodName := ⟨RJ8, "hugeLength", "(II)I"⟩
def RJ3 : String := "jdk/internal/util/Preconditions"
def TJ3 : u_T := fun k => match k with
  | _ => ("", "", "", false)
def tyJ3 : Nat → FieldType := fun k => match k with
  | _ => .int
abbrev wsJ30 : List Cond := u_ws RJ3 TJ3 0
theorem nmJ3 : ∀ a, a < 0 → ∀ b, b < 0 → a ≠ b → (TJ3 a).2.1 ≠ (TJ3 b).2.1 := by decide +kernel
theorem tyJ3_ok : ∀ k, k < 0 → parseFieldDescriptor (TJ3 k).2.2.1 = some (tyJ3 k) := by decide +kernel
abbrev cJ3_checkIndex_8e157 : ByteArray := prog_30_method_11_code
def yJ3_checkIndex_8e157 : MethodName := ⟨RJ3, "checkIndex", "(IILjava/util/function/BiFunction;)I"⟩
def RL : String := "DronegradeLaw"
abbrev cL_act : ByteArray := method_2_code
def yL_act : MethodName := ⟨RL, "act", "(LDronegrade;IIIII)I"⟩
abbrev cL_refuses : ByteArray := method_3_code
def yL_refuses : MethodName := ⟨RL, "refuses", "(LDronegrade;III)Z"⟩
abbrev cL_played : ByteArray := method_4_code
def yL_played : MethodName := ⟨RL, "played", "(LDronegrade;IIIIIII)Z"⟩
abbrev cL_tune : ByteArray := method_5_code
def yL_tune : MethodName := ⟨RL, "tune", "(LDronegrade;IIIIIIII)Z"⟩
abbrev cL_tunes : ByteArray := method_6_code
def yL_tunes : MethodName := ⟨RL, "tunes", "()Z"⟩
abbrev cL_most : ByteArray := method_7_code
def yL_most : MethodName := ⟨RL, "most", "()Z"⟩
abbrev cL_piper : ByteArray := method_8_code
def yL_piper : MethodName := ⟨RL, "piper", "(LDronegrade;IIIIIII)Z"⟩
abbrev cL_pipers : ByteArray := method_9_code
def yL_pipers : MethodName := ⟨RL, "pipers", "()Z"⟩
abbrev cL_full : ByteArray := method_10_code
def yL_full : MethodName := ⟨RL, "full", "(LDronegrade;)Z"⟩
abbrev cL_band : ByteArray := method_11_code
def yL_band : MethodName := ⟨RL, "band", "(LDronegrade;IIIIII)Z"⟩
abbrev cL_marks : ByteArray := method_12_code
def yL_marks : MethodName := ⟨RL, "marks", "(LDronegrade;IIII)I"⟩
abbrev cL_bands : ByteArray := method_13_code
def yL_bands : MethodName := ⟨RL, "bands", "()Z"⟩
abbrev cL_eight : ByteArray := method_14_code
def yL_eight : MethodName := ⟨RL, "eight", "()Z"⟩
abbrev cL_law : ByteArray := code
def yL_law : MethodName := ⟨RL, "law", "([I)Z"⟩
abbrev vwCl : List vw_C := [(RJx4a65c, TJx4a65c, 3), (RX0, TX0, 10), (RX1, TX1, 7), (RX2, TX2, 2), (RX3, TX3, 12), (RX4, TX4, 9)]
