def RX0 : String := "LifeList$Committee"
def TX0 : u_T := fun k => match k with
  | 0 => ("LifeList$Committee", "kinOf", "[I", true)
  | 1 => ("LifeList$Committee", "works", "[I", true)
  | 2 => ("LifeList$Committee", "days", "[I", true)
  | 3 => ("LifeList$Committee", "isPassed", "[Z", true)
  | 4 => ("LifeList$Committee", "isStrike", "[Z", true)
  | 5 => ("LifeList$Committee", "voted", "[I", true)
  | 6 => ("LifeList$Committee", "leftOut", "[I", true)
  | 7 => ("LifeList$Committee", "count", "I", false)
  | 8 => ("LifeList$Committee", "states", "[I", true)
  | _ => ("LifeList$Committee", "decidedOn", "[I", true)
def tyX0 : Nat → FieldType := fun k => match k with
  | 0 => .array .int
  | 1 => .array .int
  | 2 => .array .int
  | 3 => .array .boolean
  | 4 => .array .boolean
  | 5 => .array .int
  | 6 => .array .int
  | 7 => .int
  | 8 => .array .int
  | _ => .array .int
theorem nmX0 : ∀ a, a < 10 → ∀ b, b < 10 → a ≠ b → (TX0 a).2.1 ≠ (TX0 b).2.1 := by decide +kernel
theorem tyX0_ok : ∀ k, k < 10 → parseFieldDescriptor (TX0 k).2.2.1 = some (tyX0 k) := by decide +kernel
abbrev cX0_init : ByteArray := prog_2_method_1_code
def yX0_init : MethodName := ⟨RX0, "<init>", "()V"⟩
abbrev cX0_kinOfAny : ByteArray := prog_2_method_2_code
def yX0_kinOfAny : MethodName := ⟨RX0, "kinOfAny", "(I)I"⟩
abbrev cX0_add : ByteArray := prog_2_method_3_code
def yX0_add : MethodName := ⟨RX0, "add", "(IIZZ)I"⟩
abbrev cX0_noteVoters : ByteArray := prog_2_method_4_code
def yX0_noteVoters : MethodName := ⟨RX0, "noteVoters", "(III)V"⟩
abbrev cX0_reckonAll : ByteArray := prog_2_method_5_code
def yX0_reckonAll : MethodName := ⟨RX0, "reckonAll", "()V"⟩
abbrev cX0_reckon : ByteArray := prog_2_method_6_code
def yX0_reckon : MethodName := ⟨RX0, "reckon", "(II)V"⟩
def RX1 : String := "LifeList$Editions"
def TX1 : u_T := fun k => match k with
  | 0 => ("LifeList$Editions", "works", "LLifeList$Works;", true)
  | 1 => ("LifeList$Editions", "years", "LLifeList$Years;", true)
  | 2 => ("LifeList$Editions", "committee", "LLifeList$Committee;", true)
  | 3 => ("LifeList$Editions", "numbers", "[I", true)
  | 4 => ("LifeList$Editions", "letters", "[I", true)
  | 5 => ("LifeList$Editions", "given", "[I", true)
  | 6 => ("LifeList$Editions", "order", "[I", true)
  | _ => ("LifeList$Editions", "count", "I", false)
def tyX1 : Nat → FieldType := fun k => match k with
  | 0 => .object "LifeList$Works"
  | 1 => .object "LifeList$Years"
  | 2 => .object "LifeList$Committee"
  | 3 => .array .int
  | 4 => .array .int
  | 5 => .array .int
  | 6 => .array .int
  | _ => .int
theorem nmX1 : ∀ a, a < 8 → ∀ b, b < 8 → a ≠ b → (TX1 a).2.1 ≠ (TX1 b).2.1 := by decide +kernel
theorem tyX1_ok : ∀ k, k < 8 → parseFieldDescriptor (TX1 k).2.2.1 = some (tyX1 k) := by decide +kernel
abbrev cX1_init : ByteArray := prog_3_method_1_code
def yX1_init : MethodName := ⟨RX1, "<init>", "(LLifeList$Works;LLifeList$Years;LLifeList$Committee;)V"⟩
abbrev cX1_numberOf : ByteArray := prog_3_method_2_code
def yX1_numberOf : MethodName := ⟨RX1, "numberOf", "(I)I"⟩
abbrev cX1_publish : ByteArray := prog_3_method_3_code
def yX1_publish : MethodName := ⟨RX1, "publish", "()I"⟩
abbrev cX1_give : ByteArray := prog_3_method_4_code
def yX1_give : MethodName := ⟨RX1, "give", "(II)Z"⟩
abbrev cX1_sortThoseIn : ByteArray := prog_3_method_5_code
def yX1_sortThoseIn : MethodName := ⟨RX1, "sortThoseIn", "()I"⟩
abbrev cX1_middle : ByteArray := prog_3_method_6_code
def yX1_middle : MethodName := ⟨RX1, "middle", "(I)I"⟩
def RX2 : String := "LifeList$Joins"
def TX2 : u_T := fun k => match k with
  | 0 => ("LifeList$Joins", "works", "LLifeList$Works;", true)
  | 1 => ("LifeList$Joins", "sources", "LLifeList$Mentions;", true)
  | 2 => ("LifeList$Joins", "matching", "LLifeList$Matching;", true)
  | 3 => ("LifeList$Joins", "seated", "[I", true)
  | 4 => ("LifeList$Joins", "workOf", "[I", true)
  | _ => ("LifeList$Joins", "total", "I", false)
def tyX2 : Nat → FieldType := fun k => match k with
  | 0 => .object "LifeList$Works"
  | 1 => .object "LifeList$Mentions"
  | 2 => .object "LifeList$Matching"
  | 3 => .array .int
  | 4 => .array .int
  | _ => .int
theorem nmX2 : ∀ a, a < 6 → ∀ b, b < 6 → a ≠ b → (TX2 a).2.1 ≠ (TX2 b).2.1 := by decide +kernel
theorem tyX2_ok : ∀ k, k < 6 → parseFieldDescriptor (TX2 k).2.2.1 = some (tyX2 k) := by decide +kernel
abbrev cX2_init : ByteArray := prog_4_method_1_code
def yX2_init : MethodName := ⟨RX2, "<init>", "(LLifeList$Works;LLifeList$Mentions;)V"⟩
abbrev cX2_join : ByteArray := prog_4_method_2_code
def yX2_join : MethodName := ⟨RX2, "join", "(I)V"⟩
abbrev cX2_gather : ByteArray := prog_4_method_3_code
def yX2_gather : MethodName := ⟨RX2, "gather", "(I)V"⟩
abbrev cX2_weigh : ByteArray := prog_4_method_4_code
def yX2_weigh : MethodName := ⟨RX2, "weigh", "(IJ)V"⟩
abbrev cX2_seatOf : ByteArray := prog_4_method_5_code
def yX2_seatOf : MethodName := ⟨RX2, "seatOf", "(I)I"⟩
abbrev cX2_workFor : ByteArray := prog_4_method_6_code
def yX2_workFor : MethodName := ⟨RX2, "workFor", "(I)I"⟩
abbrev cX2_isSure : ByteArray := prog_4_method_7_code
def yX2_isSure : MethodName := ⟨RX2, "isSure", "(I)Z"⟩
abbrev cX2_countJoined : ByteArray := prog_4_method_8_code
def yX2_countJoined : MethodName := ⟨RX2, "countJoined", "(Z)I"⟩
abbrev cX2_sureWorks : ByteArray := prog_4_method_9_code
def yX2_sureWorks : MethodName := ⟨RX2, "sureWorks", "(I)J"⟩
def RX3 : String := "LifeList$Matching"
def TX3 : u_T := fun k => match k with
  | 0 => ("LifeList$Matching", "worths", "[[J", true)
  | 1 => ("LifeList$Matching", "rowPrices", "[J", true)
  | 2 => ("LifeList$Matching", "columnPrices", "[J", true)
  | 3 => ("LifeList$Matching", "slacks", "[J", true)
  | 4 => ("LifeList$Matching", "rowIn", "[I", true)
  | 5 => ("LifeList$Matching", "cameFrom", "[I", true)
  | 6 => ("LifeList$Matching", "isReached", "[Z", true)
  | 7 => ("LifeList$Matching", "rows", "I", false)
  | _ => ("LifeList$Matching", "columns", "I", false)
def tyX3 : Nat → FieldType := fun k => match k with
  | 0 => .array (.array .long)
  | 1 => .array .long
  | 2 => .array .long
  | 3 => .array .long
  | 4 => .array .int
  | 5 => .array .int
  | 6 => .array .boolean
  | 7 => .int
  | _ => .int
theorem nmX3 : ∀ a, a < 9 → ∀ b, b < 9 → a ≠ b → (TX3 a).2.1 ≠ (TX3 b).2.1 := by decide +kernel
theorem tyX3_ok : ∀ k, k < 9 → parseFieldDescriptor (TX3 k).2.2.1 = some (tyX3 k) := by decide +kernel
abbrev cX3_init : ByteArray := prog_5_method_1_code
def yX3_init : MethodName := ⟨RX3, "<init>", "()V"⟩
abbrev cX3_solve : ByteArray := prog_5_method_2_code
def yX3_solve : MethodName := ⟨RX3, "solve", "()J"⟩
abbrev cX3_columnOf : ByteArray := prog_5_method_3_code
def yX3_columnOf : MethodName := ⟨RX3, "columnOf", "(I)I"⟩
abbrev cX3_seat : ByteArray := prog_5_method_4_code
def yX3_seat : MethodName := ⟨RX3, "seat", "(I)V"⟩
abbrev cX3_reachNext : ByteArray := prog_5_method_5_code
def yX3_reachNext : MethodName := ⟨RX3, "reachNext", "(I)I"⟩
abbrev cX3_shiftPrices : ByteArray := prog_5_method_6_code
def yX3_shiftPrices : MethodName := ⟨RX3, "shiftPrices", "(J)V"⟩
def RX4 : String := "LifeList$Mentions"
def TX4 : u_T := fun k => match k with
  | 0 => ("LifeList$Mentions", "works", "LLifeList$Works;", true)
  | 1 => ("LifeList$Mentions", "owners", "LLifeList$Owners;", true)
  | 2 => ("LifeList$Mentions", "dating", "LLifeList$Years;", true)
  | 3 => ("LifeList$Mentions", "committee", "LLifeList$Committee;", true)
  | 4 => ("LifeList$Mentions", "kinds", "[I", true)
  | 5 => ("LifeList$Mentions", "events", "[I", true)
  | 6 => ("LifeList$Mentions", "years", "[I", true)
  | 7 => ("LifeList$Mentions", "heights", "[I", true)
  | 8 => ("LifeList$Mentions", "widths", "[I", true)
  | 9 => ("LifeList$Mentions", "units", "[I", true)
  | 10 => ("LifeList$Mentions", "isFramed", "[Z", true)
  | 11 => ("LifeList$Mentions", "words", "[I", true)
  | 12 => ("LifeList$Mentions", "holders", "[I", true)
  | _ => ("LifeList$Mentions", "count", "I", false)
def tyX4 : Nat → FieldType := fun k => match k with
  | 0 => .object "LifeList$Works"
  | 1 => .object "LifeList$Owners"
  | 2 => .object "LifeList$Years"
  | 3 => .object "LifeList$Committee"
  | 4 => .array .int
  | 5 => .array .int
  | 6 => .array .int
  | 7 => .array .int
  | 8 => .array .int
  | 9 => .array .int
  | 10 => .array .boolean
  | 11 => .array .int
  | 12 => .array .int
  | _ => .int
theorem nmX4 : ∀ a, a < 14 → ∀ b, b < 14 → a ≠ b → (TX4 a).2.1 ≠ (TX4 b).2.1 := by decide +kernel
theorem tyX4_ok : ∀ k, k < 14 → parseFieldDescriptor (TX4 k).2.2.1 = some (tyX4 k) := by decide +kernel
abbrev cX4_init : ByteArray := prog_6_method_1_code
def yX4_init : MethodName := ⟨RX4, "<init>", "(LLifeList$Works;LLifeList$Owners;LLifeList$Years;LLifeList$Committee;)V"⟩
abbrev cX4_has : ByteArray := prog_6_method_2_code
def yX4_has : MethodName := ⟨RX4, "has", "(I)Z"⟩
abbrev cX4_add : ByteArray := prog_6_method_3_code
def yX4_add : MethodName := ⟨RX4, "add", "(IIIII)I"⟩
abbrev cX4_measure : ByteArray := prog_6_method_4_code
def yX4_measure : MethodName := ⟨RX4, "measure", "(IIIIZ)V"⟩
abbrev cX4_scoreFor : ByteArray := prog_6_method_5_code
def yX4_scoreFor : MethodName := ⟨RX4, "scoreFor", "(II)I"⟩
abbrev cX4_countFits : ByteArray := prog_6_method_6_code
def yX4_countFits : MethodName := ⟨RX4, "countFits", "(I)I"⟩
abbrev cX4_countLost : ByteArray := prog_6_method_7_code
def yX4_countLost : MethodName := ⟨RX4, "countLost", "()I"⟩
abbrev cX4_isSizeFit : ByteArray := prog_6_method_8_code
def yX4_isSizeFit : MethodName := ⟨RX4, "isSizeFit", "(II)Z"⟩
abbrev cX4_areSidesFit : ByteArray := prog_6_method_9_code
def yX4_areSidesFit : MethodName := ⟨RX4, "areSidesFit", "(III)Z"⟩
def RX5 : String := "LifeList$Owners"
def TX5 : u_T := fun k => match k with
  | 0 => ("LifeList$Owners", "works", "[I", true)
  | 1 => ("LifeList$Owners", "holders", "[I", true)
  | 2 => ("LifeList$Owners", "mayFrom", "[I", true)
  | 3 => ("LifeList$Owners", "surelyFrom", "[I", true)
  | 4 => ("LifeList$Owners", "surelyTo", "[I", true)
  | 5 => ("LifeList$Owners", "mayTo", "[I", true)
  | _ => ("LifeList$Owners", "count", "I", false)
def tyX5 : Nat → FieldType := fun k => match k with
  | 0 => .array .int
  | 1 => .array .int
  | 2 => .array .int
  | 3 => .array .int
  | 4 => .array .int
  | 5 => .array .int
  | _ => .int
theorem nmX5 : ∀ a, a < 7 → ∀ b, b < 7 → a ≠ b → (TX5 a).2.1 ≠ (TX5 b).2.1 := by decide +kernel
theorem tyX5_ok : ∀ k, k < 7 → parseFieldDescriptor (TX5 k).2.2.1 = some (tyX5 k) := by decide +kernel
abbrev cX5_init : ByteArray := prog_7_method_1_code
def yX5_init : MethodName := ⟨RX5, "<init>", "()V"⟩
abbrev cX5_add : ByteArray := prog_7_method_2_code
def yX5_add : MethodName := ⟨RX5, "add", "(IIIIII)I"⟩
abbrev cX5_theOwner : ByteArray := prog_7_method_3_code
def yX5_theOwner : MethodName := ⟨RX5, "theOwner", "(II)I"⟩
abbrev cX5_whoMay : ByteArray := prog_7_method_4_code
def yX5_whoMay : MethodName := ⟨RX5, "whoMay", "(II)I"⟩
abbrev cX5_firstTwoAtOnce : ByteArray := prog_7_method_5_code
def yX5_firstTwoAtOnce : MethodName := ⟨RX5, "firstTwoAtOnce", "(I)I"⟩
abbrev cX5_areTwoAtOnce : ByteArray := prog_7_method_6_code
def yX5_areTwoAtOnce : MethodName := ⟨RX5, "areTwoAtOnce", "(II)Z"⟩
abbrev cX5_firstGap : ByteArray := prog_7_method_7_code
def yX5_firstGap : MethodName := ⟨RX5, "firstGap", "(II)I"⟩
def RX6 : String := "LifeList$Rules"
def TX6 : u_T := fun k => match k with
  | 0 => ("LifeList$Rules", "inForce", "[[I", true)
  | 1 => ("LifeList$Rules", "spelled", "[[I", true)
  | 2 => ("LifeList$Rules", "tape", "[C", true)
  | 3 => ("LifeList$Rules", "length", "I", false)
  | 4 => ("LifeList$Rules", "place", "I", false)
  | _ => ("LifeList$Rules", "fault", "I", false)
def tyX6 : Nat → FieldType := fun k => match k with
  | 0 => .array (.array .int)
  | 1 => .array (.array .int)
  | 2 => .array .char
  | 3 => .int
  | 4 => .int
  | _ => .int
theorem nmX6 : ∀ a, a < 6 → ∀ b, b < 6 → a ≠ b → (TX6 a).2.1 ≠ (TX6 b).2.1 := by decide +kernel
theorem tyX6_ok : ∀ k, k < 6 → parseFieldDescriptor (TX6 k).2.2.1 = some (tyX6 k) := by decide +kernel
abbrev cX6_init : ByteArray := prog_8_method_1_code
def yX6_init : MethodName := ⟨RX6, "<init>", "()V"⟩
abbrev cX6_areTypable : ByteArray := prog_8_method_2_code
def yX6_areTypable : MethodName := ⟨RX6, "areTypable", "(JI)Z"⟩
abbrev cX6_byteAt : ByteArray := prog_8_method_3_code
def yX6_byteAt : MethodName := ⟨RX6, "byteAt", "(JI)I"⟩
abbrev cX6_append : ByteArray := prog_8_method_4_code
def yX6_append : MethodName := ⟨RX6, "append", "(JI)I"⟩
abbrev cX6_isPassed : ByteArray := prog_8_method_5_code
def yX6_isPassed : MethodName := ⟨RX6, "isPassed", "(III)Z"⟩
abbrev cX6_readTape : ByteArray := prog_8_method_6_code
def yX6_readTape : MethodName := ⟨RX6, "readTape", "()I"⟩
abbrev cX6_enforce : ByteArray := prog_8_method_7_code
def yX6_enforce : MethodName := ⟨RX6, "enforce", "()V"⟩
abbrev cX6_readClauses : ByteArray := prog_8_method_8_code
def yX6_readClauses : MethodName := ⟨RX6, "readClauses", "()I"⟩
abbrev cX6_readClause : ByteArray := prog_8_method_9_code
def yX6_readClause : MethodName := ⟨RX6, "readClause", "()V"⟩
abbrev cX6_readKind : ByteArray := prog_8_method_10_code
def yX6_readKind : MethodName := ⟨RX6, "readKind", "()I"⟩
abbrev cX6_readSign : ByteArray := prog_8_method_11_code
def yX6_readSign : MethodName := ⟨RX6, "readSign", "(C)V"⟩
abbrev cX6_readNumber : ByteArray := prog_8_method_12_code
def yX6_readNumber : MethodName := ⟨RX6, "readNumber", "(II)I"⟩
abbrev cX6_skipBlanks : ByteArray := prog_8_method_13_code
def yX6_skipBlanks : MethodName := ⟨RX6, "skipBlanks", "()V"⟩
abbrev cX6_blame : ByteArray := prog_8_method_14_code
def yX6_blame : MethodName := ⟨RX6, "blame", "(I)V"⟩
def RX7 : String := "LifeList$Sheets"
def TX7 : u_T := fun k => match k with
  | 0 => ("LifeList$Sheets", "rows", "[[I", true)
  | 1 => ("LifeList$Sheets", "laneOf", "[I", true)
  | _ => ("LifeList$Sheets", "lengths", "[I", true)
def tyX7 : Nat → FieldType := fun k => match k with
  | 0 => .array (.array .int)
  | 1 => .array .int
  | _ => .array .int
theorem nmX7 : ∀ a, a < 3 → ∀ b, b < 3 → a ≠ b → (TX7 a).2.1 ≠ (TX7 b).2.1 := by decide +kernel
theorem tyX7_ok : ∀ k, k < 3 → parseFieldDescriptor (TX7 k).2.2.1 = some (tyX7 k) := by decide +kernel
abbrev cX7_init : ByteArray := prog_9_method_1_code
def yX7_init : MethodName := ⟨RX7, "<init>", "()V"⟩
abbrev cX7_lay : ByteArray := prog_9_method_2_code
def yX7_lay : MethodName := ⟨RX7, "lay", "(III)V"⟩
abbrev cX7_refuse : ByteArray := prog_9_method_3_code
def yX7_refuse : MethodName := ⟨RX7, "refuse", "(IIII)I"⟩
def RX8 : String := "LifeList$Works"
def TX8 : u_T := fun k => match k with
  | 0 => ("LifeList$Works", "kinds", "[I", true)
  | 1 => ("LifeList$Works", "ofs", "[I", true)
  | 2 => ("LifeList$Works", "heights", "[I", true)
  | 3 => ("LifeList$Works", "widths", "[I", true)
  | 4 => ("LifeList$Works", "lows", "[I", true)
  | 5 => ("LifeList$Works", "highs", "[I", true)
  | 6 => ("LifeList$Works", "isTurned", "[Z", true)
  | 7 => ("LifeList$Works", "titles", "[[I", true)
  | 8 => ("LifeList$Works", "titleYears", "[[I", true)
  | 9 => ("LifeList$Works", "titleCounts", "[I", true)
  | 10 => ("LifeList$Works", "cutYears", "[I", true)
  | 11 => ("LifeList$Works", "cutHeights", "[I", true)
  | 12 => ("LifeList$Works", "cutWidths", "[I", true)
  | _ => ("LifeList$Works", "count", "I", false)
def tyX8 : Nat → FieldType := fun k => match k with
  | 0 => .array .int
  | 1 => .array .int
  | 2 => .array .int
  | 3 => .array .int
  | 4 => .array .int
  | 5 => .array .int
  | 6 => .array .boolean
  | 7 => .array (.array .int)
  | 8 => .array (.array .int)
  | 9 => .array .int
  | 10 => .array .int
  | 11 => .array .int
  | 12 => .array .int
  | _ => .int
theorem nmX8 : ∀ a, a < 14 → ∀ b, b < 14 → a ≠ b → (TX8 a).2.1 ≠ (TX8 b).2.1 := by decide +kernel
theorem tyX8_ok : ∀ k, k < 14 → parseFieldDescriptor (TX8 k).2.2.1 = some (tyX8 k) := by decide +kernel
abbrev cX8_init : ByteArray := prog_10_method_1_code
def yX8_init : MethodName := ⟨RX8, "<init>", "()V"⟩
abbrev cX8_has : ByteArray := prog_10_method_2_code
def yX8_has : MethodName := ⟨RX8, "has", "(I)Z"⟩
abbrev cX8_isPainted : ByteArray := prog_10_method_3_code
def yX8_isPainted : MethodName := ⟨RX8, "isPainted", "(I)Z"⟩
abbrev cX8_isOnPaper : ByteArray := prog_10_method_4_code
def yX8_isOnPaper : MethodName := ⟨RX8, "isOnPaper", "(I)Z"⟩
abbrev cX8_add : ByteArray := prog_10_method_5_code
def yX8_add : MethodName := ⟨RX8, "add", "(IIIIIII)I"⟩
abbrev cX8_addTitle : ByteArray := prog_10_method_6_code
def yX8_addTitle : MethodName := ⟨RX8, "addTitle", "(III)I"⟩
abbrev cX8_trim : ByteArray := prog_10_method_7_code
def yX8_trim : MethodName := ⟨RX8, "trim", "(IIII)I"⟩
abbrev cX8_titleIn : ByteArray := prog_10_method_8_code
def yX8_titleIn : MethodName := ⟨RX8, "titleIn", "(II)I"⟩
abbrev cX8_heightIn : ByteArray := prog_10_method_9_code
def yX8_heightIn : MethodName := ⟨RX8, "heightIn", "(II)I"⟩
abbrev cX8_widthIn : ByteArray := prog_10_method_10_code
def yX8_widthIn : MethodName := ⟨RX8, "widthIn", "(II)I"⟩
abbrev cX8_isLeaning : ByteArray := prog_10_method_11_code
def yX8_isLeaning : MethodName := ⟨RX8, "isLeaning", "(II)Z"⟩
def RX9 : String := "LifeList$Years"
def TX9 : u_T := fun k => match k with
  | 0 => ("LifeList$Years", "works", "LLifeList$Works;", true)
  | 1 => ("LifeList$Years", "committee", "LLifeList$Committee;", true)
  | 2 => ("LifeList$Years", "befores", "[I", true)
  | 3 => ("LifeList$Years", "behinds", "[I", true)
  | 4 => ("LifeList$Years", "distances", "[I", true)
  | 5 => ("LifeList$Years", "isUsed", "[Z", true)
  | 6 => ("LifeList$Years", "count", "I", false)
  | 7 => ("LifeList$Years", "lows", "[I", true)
  | 8 => ("LifeList$Years", "highs", "[I", true)
  | 9 => ("LifeList$Years", "isQuarrel", "Z", false)
  | 10 => ("LifeList$Years", "counting", "[I", true)
  | 11 => ("LifeList$Years", "countingCount", "I", false)
  | 12 => ("LifeList$Years", "isAside", "[Z", true)
  | _ => ("LifeList$Years", "chosen", "[I", true)
def tyX9 : Nat → FieldType := fun k => match k with
  | 0 => .object "LifeList$Works"
  | 1 => .object "LifeList$Committee"
  | 2 => .array .int
  | 3 => .array .int
  | 4 => .array .int
  | 5 => .array .boolean
  | 6 => .int
  | 7 => .array .int
  | 8 => .array .int
  | 9 => .boolean
  | 10 => .array .int
  | 11 => .int
  | 12 => .array .boolean
  | _ => .array .int
theorem nmX9 : ∀ a, a < 14 → ∀ b, b < 14 → a ≠ b → (TX9 a).2.1 ≠ (TX9 b).2.1 := by decide +kernel
theorem tyX9_ok : ∀ k, k < 14 → parseFieldDescriptor (TX9 k).2.2.1 = some (tyX9 k) := by decide +kernel
abbrev cX9_init : ByteArray := prog_11_method_1_code
def yX9_init : MethodName := ⟨RX9, "<init>", "(LLifeList$Works;LLifeList$Committee;)V"⟩
abbrev cX9_add : ByteArray := prog_11_method_2_code
def yX9_add : MethodName := ⟨RX9, "add", "(III)I"⟩
abbrev cX9_reckon : ByteArray := prog_11_method_3_code
def yX9_reckon : MethodName := ⟨RX9, "reckon", "()V"⟩
abbrev cX9_isStruck : ByteArray := prog_11_method_4_code
def yX9_isStruck : MethodName := ⟨RX9, "isStruck", "(I)Z"⟩
abbrev cX9_raiseLows : ByteArray := prog_11_method_5_code
def yX9_raiseLows : MethodName := ⟨RX9, "raiseLows", "()Z"⟩
abbrev cX9_lowerHighs : ByteArray := prog_11_method_6_code
def yX9_lowerHighs : MethodName := ⟨RX9, "lowerHighs", "()V"⟩
abbrev cX9_findAsides : ByteArray := prog_11_method_7_code
def yX9_findAsides : MethodName := ⟨RX9, "findAsides", "()I"⟩
abbrev cX9_asideAt : ByteArray := prog_11_method_8_code
def yX9_asideAt : MethodName := ⟨RX9, "asideAt", "(I)I"⟩
abbrev cX9_chooseAsides : ByteArray := prog_11_method_9_code
def yX9_chooseAsides : MethodName := ⟨RX9, "chooseAsides", "(I)Z"⟩
abbrev cX9_isFreeWithout : ByteArray := prog_11_method_10_code
def yX9_isFreeWithout : MethodName := ⟨RX9, "isFreeWithout", "(I)Z"⟩
abbrev cX9_putAside : ByteArray := prog_11_method_11_code
def yX9_putAside : MethodName := ⟨RX9, "putAside", "(IZ)V"⟩
abbrev cX9_chooseNext : ByteArray := prog_11_method_12_code
def yX9_chooseNext : MethodName := ⟨RX9, "chooseNext", "(I)Z"⟩
def RX10 : String := "LifeList"
def TX10 : u_T := fun k => match k with
  | 0 => ("LifeList", "works", "LLifeList$Works;", true)
  | 1 => ("LifeList", "owners", "LLifeList$Owners;", true)
  | 2 => ("LifeList", "ruling", "LLifeList$Rules;", true)
  | 3 => ("LifeList", "committee", "LLifeList$Committee;", true)
  | 4 => ("LifeList", "years", "LLifeList$Years;", true)
  | 5 => ("LifeList", "sources", "LLifeList$Mentions;", true)
  | 6 => ("LifeList", "joins", "LLifeList$Joins;", true)
  | 7 => ("LifeList", "editions", "LLifeList$Editions;", true)
  | _ => ("LifeList", "sheets", "LLifeList$Sheets;", true)
def tyX10 : Nat → FieldType := fun k => match k with
  | 0 => .object "LifeList$Works"
  | 1 => .object "LifeList$Owners"
  | 2 => .object "LifeList$Rules"
  | 3 => .object "LifeList$Committee"
  | 4 => .object "LifeList$Years"
  | 5 => .object "LifeList$Mentions"
  | 6 => .object "LifeList$Joins"
  | 7 => .object "LifeList$Editions"
  | _ => .object "LifeList$Sheets"
theorem nmX10 : ∀ a, a < 9 → ∀ b, b < 9 → a ≠ b → (TX10 a).2.1 ≠ (TX10 b).2.1 := by decide +kernel
theorem tyX10_ok : ∀ k, k < 9 → parseFieldDescriptor (TX10 k).2.2.1 = some (tyX10 k) := by decide +kernel
abbrev cX10_init : ByteArray := prog_1_method_1_code
def yX10_init : MethodName := ⟨RX10, "<init>", "()V"⟩
abbrev cX10_work : ByteArray := prog_1_method_2_code
def yX10_work : MethodName := ⟨RX10, "work", "(IIIIII)I"⟩
abbrev cX10_version : ByteArray := prog_1_method_3_code
def yX10_version : MethodName := ⟨RX10, "version", "(IIIIII)I"⟩
abbrev cX10_print : ByteArray := prog_1_method_4_code
def yX10_print : MethodName := ⟨RX10, "print", "(IZIIIII)I"⟩
abbrev cX10_retitle : ByteArray := prog_1_method_5_code
def yX10_retitle : MethodName := ⟨RX10, "retitle", "(III)I"⟩
abbrev cX10_cut : ByteArray := prog_1_method_6_code
def yX10_cut : MethodName := ⟨RX10, "cut", "(IIII)I"⟩
abbrev cX10_told : ByteArray := prog_1_method_7_code
def yX10_told : MethodName := ⟨RX10, "told", "(II)I"⟩
abbrev cX10_then : ByteArray := prog_1_method_8_code
def yX10_then : MethodName := ⟨RX10, "then", "(III)I"⟩
abbrev cX10_turned : ByteArray := prog_1_method_9_code
def yX10_turned : MethodName := ⟨RX10, "turned", "(I)I"⟩
abbrev cX10_holding : ByteArray := prog_1_method_10_code
def yX10_holding : MethodName := ⟨RX10, "holding", "(IIIIII)I"⟩
abbrev cX10_unhold : ByteArray := prog_1_method_11_code
def yX10_unhold : MethodName := ⟨RX10, "unhold", "()I"⟩
abbrev cX10_owner : ByteArray := prog_1_method_12_code
def yX10_owner : MethodName := ⟨RX10, "owner", "(II)I"⟩
abbrev cX10_may : ByteArray := prog_1_method_13_code
def yX10_may : MethodName := ⟨RX10, "may", "(II)I"⟩
abbrev cX10_twice : ByteArray := prog_1_method_14_code
def yX10_twice : MethodName := ⟨RX10, "twice", "(I)I"⟩
abbrev cX10_gap : ByteArray := prog_1_method_15_code
def yX10_gap : MethodName := ⟨RX10, "gap", "(II)I"⟩
abbrev cX10_mention : ByteArray := prog_1_method_16_code
def yX10_mention : MethodName := ⟨RX10, "mention", "(IIIIIIZII)I"⟩
abbrev cX10_score : ByteArray := prog_1_method_17_code
def yX10_score : MethodName := ⟨RX10, "score", "(II)I"⟩
abbrev cX10_rivals : ByteArray := prog_1_method_18_code
def yX10_rivals : MethodName := ⟨RX10, "rivals", "(I)I"⟩
abbrev cX10_joined : ByteArray := prog_1_method_19_code
def yX10_joined : MethodName := ⟨RX10, "joined", "(I)I"⟩
abbrev cX10_sure : ByteArray := prog_1_method_20_code
def yX10_sure : MethodName := ⟨RX10, "sure", "(I)I"⟩
abbrev cX10_sum : ByteArray := prog_1_method_21_code
def yX10_sum : MethodName := ⟨RX10, "sum", "(I)I"⟩
abbrev cX10_mentions : ByteArray := prog_1_method_22_code
def yX10_mentions : MethodName := ⟨RX10, "mentions", "(I)I"⟩
abbrev cX10_counted : ByteArray := prog_1_method_23_code
def yX10_counted : MethodName := ⟨RX10, "counted", "(III)I"⟩
abbrev cX10_clue : ByteArray := prog_1_method_24_code
def yX10_clue : MethodName := ⟨RX10, "clue", "(III)I"⟩
abbrev cX10_use : ByteArray := prog_1_method_25_code
def yX10_use : MethodName := ⟨RX10, "use", "(IZ)I"⟩
abbrev cX10_made : ByteArray := prog_1_method_26_code
def yX10_made : MethodName := ⟨RX10, "made", "(II)I"⟩
abbrev cX10_quarrel : ByteArray := prog_1_method_27_code
def yX10_quarrel : MethodName := ⟨RX10, "quarrel", "()I"⟩
abbrev cX10_asides : ByteArray := prog_1_method_28_code
def yX10_asides : MethodName := ⟨RX10, "asides", "()I"⟩
abbrev cX10_aside : ByteArray := prog_1_method_29_code
def yX10_aside : MethodName := ⟨RX10, "aside", "(I)I"⟩
abbrev cX10_kin : ByteArray := prog_1_method_30_code
def yX10_kin : MethodName := ⟨RX10, "kin", "(II)I"⟩
abbrev cX10_type : ByteArray := prog_1_method_31_code
def yX10_type : MethodName := ⟨RX10, "type", "(JI)I"⟩
abbrev cX10_rules : ByteArray := prog_1_method_32_code
def yX10_rules : MethodName := ⟨RX10, "rules", "()I"⟩
abbrev cX10_rule : ByteArray := prog_1_method_33_code
def yX10_rule : MethodName := ⟨RX10, "rule", "(II)I"⟩
abbrev cX10_vote : ByteArray := prog_1_method_34_code
def yX10_vote : MethodName := ⟨RX10, "vote", "(IIIIZ)I"⟩
abbrev cX10_votes : ByteArray := prog_1_method_35_code
def yX10_votes : MethodName := ⟨RX10, "votes", "(II)I"⟩
abbrev cX10_state : ByteArray := prog_1_method_36_code
def yX10_state : MethodName := ⟨RX10, "state", "(III)I"⟩
abbrev cX10_unsure : ByteArray := prog_1_method_37_code
def yX10_unsure : MethodName := ⟨RX10, "unsure", "(II)I"⟩
abbrev cX10_leaning : ByteArray := prog_1_method_38_code
def yX10_leaning : MethodName := ⟨RX10, "leaning", "(I)I"⟩
abbrev cX10_edition : ByteArray := prog_1_method_39_code
def yX10_edition : MethodName := ⟨RX10, "edition", "()I"⟩
abbrev cX10_number : ByteArray := prog_1_method_40_code
def yX10_number : MethodName := ⟨RX10, "number", "(I)I"⟩
abbrev cX10_count : ByteArray := prog_1_method_41_code
def yX10_count : MethodName := ⟨RX10, "count", "(I)I"⟩
abbrev cX10_sheet : ByteArray := prog_1_method_42_code
def yX10_sheet : MethodName := ⟨RX10, "sheet", "(III)I"⟩
abbrev cX10_drop : ByteArray := prog_1_method_43_code
def yX10_drop : MethodName := ⟨RX10, "drop", "(I)I"⟩
abbrev cX10_item : ByteArray := prog_1_method_44_code
def yX10_item : MethodName := ⟨RX10, "item", "(IIII)I"⟩
abbrev cX10_holdings : ByteArray := prog_1_method_45_code
def yX10_holdings : MethodName := ⟨RX10, "holdings", "(IIII)I"⟩
abbrev cX10_isWithin : ByteArray := prog_1_method_46_code
def yX10_isWithin : MethodName := ⟨RX10, "isWithin", "(III)Z"⟩
abbrev cX10_isYear : ByteArray := prog_1_method_47_code
def yX10_isYear : MethodName := ⟨RX10, "isYear", "(I)Z"⟩
abbrev cX10_isBits : ByteArray := prog_1_method_48_code
def yX10_isBits : MethodName := ⟨RX10, "isBits", "(II)Z"⟩
abbrev cX10_isTitle : ByteArray := prog_1_method_49_code
def yX10_isTitle : MethodName := ⟨RX10, "isTitle", "(I)Z"⟩
abbrev cX10_isSide : ByteArray := prog_1_method_50_code
def yX10_isSide : MethodName := ⟨RX10, "isSide", "(I)Z"⟩
abbrev cX10_isToldWell : ByteArray := prog_1_method_51_code
def yX10_isToldWell : MethodName := ⟨RX10, "isToldWell", "(IIIII)Z"⟩
abbrev cX10_isSheet : ByteArray := prog_1_method_52_code
def yX10_isSheet : MethodName := ⟨RX10, "isSheet", "(I)Z"⟩
abbrev cX10_isLane : ByteArray := prog_1_method_53_code
def yX10_isLane : MethodName := ⟨RX10, "isLane", "(I)Z"⟩
abbrev cX10_bit : ByteArray := prog_1_method_54_code
def yX10_bit : MethodName := ⟨RX10, "bit", "(Z)I"⟩
abbrev cX10_isHoldingWell : ByteArray := prog_1_method_55_code
def yX10_isHoldingWell : MethodName := ⟨RX10, "isHoldingWell", "(IIIIII)Z"⟩
abbrev cX10_isAsOf : ByteArray := prog_1_method_56_code
def yX10_isAsOf : MethodName := ⟨RX10, "isAsOf", "(II)Z"⟩
abbrev cX10_leansOnOneNotIn : ByteArray := prog_1_method_57_code
def yX10_leansOnOneNotIn : MethodName := ⟨RX10, "leansOnOneNotIn", "(I)Z"⟩
abbrev cX10_countStates : ByteArray := prog_1_method_58_code
def yX10_countStates : MethodName := ⟨RX10, "countStates", "(I)I"⟩
def RX11 : String := "LifeListModel"
def TX11 : u_T := fun k => match k with
  | 0 => ("LifeListModel", "works", "I", false)
  | 1 => ("LifeListModel", "kinds", "[I", true)
  | 2 => ("LifeListModel", "parents", "[I", true)
  | 3 => ("LifeListModel", "turns", "[Z", true)
  | 4 => ("LifeListModel", "heights", "[I", true)
  | 5 => ("LifeListModel", "widths", "[I", true)
  | 6 => ("LifeListModel", "lows", "[I", true)
  | 7 => ("LifeListModel", "highs", "[I", true)
  | 8 => ("LifeListModel", "titles", "[I", true)
  | 9 => ("LifeListModel", "titleYears", "[I", true)
  | 10 => ("LifeListModel", "titleMany", "[I", true)
  | 11 => ("LifeListModel", "cutYears", "[I", true)
  | 12 => ("LifeListModel", "cutHeights", "[I", true)
  | 13 => ("LifeListModel", "cutWidths", "[I", true)
  | 14 => ("LifeListModel", "holdings", "I", false)
  | 15 => ("LifeListModel", "held", "[I", true)
  | 16 => ("LifeListModel", "clues", "I", false)
  | 17 => ("LifeListModel", "before", "[I", true)
  | 18 => ("LifeListModel", "behind", "[I", true)
  | 19 => ("LifeListModel", "apart", "[I", true)
  | 20 => ("LifeListModel", "inUse", "[Z", true)
  | 21 => ("LifeListModel", "counting", "I", false)
  | 22 => ("LifeListModel", "least", "[I", true)
  | 23 => ("LifeListModel", "most", "[I", true)
  | 24 => ("LifeListModel", "quarrels", "Z", false)
  | 25 => ("LifeListModel", "asideMany", "I", false)
  | 26 => ("LifeListModel", "asides", "[I", true)
  | 27 => ("LifeListModel", "mentions", "I", false)
  | 28 => ("LifeListModel", "said", "[I", true)
  | 29 => ("LifeListModel", "isFresh", "Z", false)
  | 30 => ("LifeListModel", "joinedTo", "[I", true)
  | 31 => ("LifeListModel", "isSure", "[Z", true)
  | 32 => ("LifeListModel", "sums", "[I", true)
  | 33 => ("LifeListModel", "list", "[I", true)
  | 34 => ("LifeListModel", "listed", "I", false)
  | 35 => ("LifeListModel", "table", "[I", true)
  | 36 => ("LifeListModel", "sets", "[I", true)
  | 37 => ("LifeListModel", "setsThen", "[I", true)
  | 38 => ("LifeListModel", "tableKept", "[I", true)
  | 39 => ("LifeListModel", "isJoined", "Z", false)
  | 40 => ("LifeListModel", "kin", "[I", true)
  | 41 => ("LifeListModel", "ruleMany", "[I", true)
  | 42 => ("LifeListModel", "ruleUp", "[I", true)
  | 43 => ("LifeListModel", "ruleDown", "[I", true)
  | 44 => ("LifeListModel", "readRules", "[I", true)
  | 45 => ("LifeListModel", "tape", "[I", true)
  | 46 => ("LifeListModel", "taped", "I", false)
  | 47 => ("LifeListModel", "at", "I", false)
  | 48 => ("LifeListModel", "votes", "I", false)
  | 49 => ("LifeListModel", "cast", "[I", true)
  | 50 => ("LifeListModel", "editions", "I", false)
  | 51 => ("LifeListModel", "given", "[I", true)
  | 52 => ("LifeListModel", "hasNumber", "[Z", true)
  | 53 => ("LifeListModel", "numbers", "[I", true)
  | 54 => ("LifeListModel", "letters", "[I", true)
  | 55 => ("LifeListModel", "order", "[I", true)
  | 56 => ("LifeListModel", "lanes", "[I", true)
  | 57 => ("LifeListModel", "sizes", "[I", true)
  | _ => ("LifeListModel", "items", "[I", true)
def tyX11 : Nat → FieldType := fun k => match k with
  | 0 => .int
  | 1 => .array .int
  | 2 => .array .int
  | 3 => .array .boolean
  | 4 => .array .int
  | 5 => .array .int
  | 6 => .array .int
  | 7 => .array .int
  | 8 => .array .int
  | 9 => .array .int
  | 10 => .array .int
  | 11 => .array .int
  | 12 => .array .int
  | 13 => .array .int
  | 14 => .int
  | 15 => .array .int
  | 16 => .int
  | 17 => .array .int
  | 18 => .array .int
  | 19 => .array .int
  | 20 => .array .boolean
  | 21 => .int
  | 22 => .array .int
  | 23 => .array .int
  | 24 => .boolean
  | 25 => .int
  | 26 => .array .int
  | 27 => .int
  | 28 => .array .int
  | 29 => .boolean
  | 30 => .array .int
  | 31 => .array .boolean
  | 32 => .array .int
  | 33 => .array .int
  | 34 => .int
  | 35 => .array .int
  | 36 => .array .int
  | 37 => .array .int
  | 38 => .array .int
  | 39 => .boolean
  | 40 => .array .int
  | 41 => .array .int
  | 42 => .array .int
  | 43 => .array .int
  | 44 => .array .int
  | 45 => .array .int
  | 46 => .int
  | 47 => .int
  | 48 => .int
  | 49 => .array .int
  | 50 => .int
  | 51 => .array .int
  | 52 => .array .boolean
  | 53 => .array .int
  | 54 => .array .int
  | 55 => .array .int
  | 56 => .array .int
  | 57 => .array .int
  | _ => .array .int
theorem nmX11 : ∀ a, a < 59 → ∀ b, b < 59 → a ≠ b → (TX11 a).2.1 ≠ (TX11 b).2.1 := by decide +kernel
theorem tyX11_ok : ∀ k, k < 59 → parseFieldDescriptor (TX11 k).2.2.1 = some (tyX11 k) := by decide +kernel
abbrev cX11_in : ByteArray := prog_13_method_1_code
def yX11_in : MethodName := ⟨RX11, "in", "(JJJ)Z"⟩
abbrev cX11_isYear : ByteArray := prog_13_method_2_code
def yX11_isYear : MethodName := ⟨RX11, "isYear", "(I)Z"⟩
abbrev cX11_init : ByteArray := prog_13_method_3_code
def yX11_init : MethodName := ⟨RX11, "<init>", "()V"⟩
abbrev cX11_isWork : ByteArray := prog_13_method_4_code
def yX11_isWork : MethodName := ⟨RX11, "isWork", "(I)Z"⟩
abbrev cX11_isSides : ByteArray := prog_13_method_5_code
def yX11_isSides : MethodName := ⟨RX11, "isSides", "(II)Z"⟩
abbrev cX11_isTold : ByteArray := prog_13_method_6_code
def yX11_isTold : MethodName := ⟨RX11, "isTold", "(IIIII)Z"⟩
abbrev cX11_add : ByteArray := prog_13_method_7_code
def yX11_add : MethodName := ⟨RX11, "add", "(IIZIIIII)I"⟩
abbrev cX11_work : ByteArray := prog_13_method_8_code
def yX11_work : MethodName := ⟨RX11, "work", "(IIIIII)I"⟩
abbrev cX11_version : ByteArray := prog_13_method_9_code
def yX11_version : MethodName := ⟨RX11, "version", "(IIIIII)I"⟩
abbrev cX11_print : ByteArray := prog_13_method_10_code
def yX11_print : MethodName := ⟨RX11, "print", "(IZIIIII)I"⟩
abbrev cX11_retitle : ByteArray := prog_13_method_11_code
def yX11_retitle : MethodName := ⟨RX11, "retitle", "(III)I"⟩
abbrev cX11_cut : ByteArray := prog_13_method_12_code
def yX11_cut : MethodName := ⟨RX11, "cut", "(IIII)I"⟩
abbrev cX11_told : ByteArray := prog_13_method_13_code
def yX11_told : MethodName := ⟨RX11, "told", "(II)I"⟩
abbrev cX11_titleOf : ByteArray := prog_13_method_14_code
def yX11_titleOf : MethodName := ⟨RX11, "titleOf", "(II)I"⟩
abbrev cX11_isCut : ByteArray := prog_13_method_15_code
def yX11_isCut : MethodName := ⟨RX11, "isCut", "(II)Z"⟩
abbrev cX11_heightOf : ByteArray := prog_13_method_16_code
def yX11_heightOf : MethodName := ⟨RX11, "heightOf", "(II)I"⟩
abbrev cX11_widthOf : ByteArray := prog_13_method_17_code
def yX11_widthOf : MethodName := ⟨RX11, "widthOf", "(II)I"⟩
abbrev cX11_then : ByteArray := prog_13_method_18_code
def yX11_then : MethodName := ⟨RX11, "then", "(III)I"⟩
abbrev cX11_turned : ByteArray := prog_13_method_19_code
def yX11_turned : MethodName := ⟨RX11, "turned", "(I)I"⟩
abbrev cX11_isHolding : ByteArray := prog_13_method_20_code
def yX11_isHolding : MethodName := ⟨RX11, "isHolding", "(IIIIII)Z"⟩
abbrev cX11_keepHolding : ByteArray := prog_13_method_21_code
def yX11_keepHolding : MethodName := ⟨RX11, "keepHolding", "(IIIIII)V"⟩
abbrev cX11_holding : ByteArray := prog_13_method_22_code
def yX11_holding : MethodName := ⟨RX11, "holding", "(IIIIII)I"⟩
abbrev cX11_unhold : ByteArray := prog_13_method_23_code
def yX11_unhold : MethodName := ⟨RX11, "unhold", "()I"⟩
abbrev cX11_ownerOf : ByteArray := prog_13_method_24_code
def yX11_ownerOf : MethodName := ⟨RX11, "ownerOf", "(II)I"⟩
abbrev cX11_mayHold : ByteArray := prog_13_method_25_code
def yX11_mayHold : MethodName := ⟨RX11, "mayHold", "(II)I"⟩
abbrev cX11_owner : ByteArray := prog_13_method_26_code
def yX11_owner : MethodName := ⟨RX11, "owner", "(II)I"⟩
abbrev cX11_may : ByteArray := prog_13_method_27_code
def yX11_may : MethodName := ⟨RX11, "may", "(II)I"⟩
abbrev cX11_twice : ByteArray := prog_13_method_28_code
def yX11_twice : MethodName := ⟨RX11, "twice", "(I)I"⟩
abbrev cX11_gap : ByteArray := prog_13_method_29_code
def yX11_gap : MethodName := ⟨RX11, "gap", "(II)I"⟩
abbrev cX11_clue : ByteArray := prog_13_method_30_code
def yX11_clue : MethodName := ⟨RX11, "clue", "(III)I"⟩
abbrev cX11_use : ByteArray := prog_13_method_31_code
def yX11_use : MethodName := ⟨RX11, "use", "(IZ)I"⟩
abbrev cX11_findCounting : ByteArray := prog_13_method_32_code
def yX11_findCounting : MethodName := ⟨RX11, "findCounting", "()I"⟩
abbrev cX11_findLeast : ByteArray := prog_13_method_33_code
def yX11_findLeast : MethodName := ⟨RX11, "findLeast", "(I)Z"⟩
abbrev cX11_findMost : ByteArray := prog_13_method_34_code
def yX11_findMost : MethodName := ⟨RX11, "findMost", "(I)V"⟩
abbrev cX11_findYears : ByteArray := prog_13_method_35_code
def yX11_findYears : MethodName := ⟨RX11, "findYears", "()V"⟩
abbrev cX11_made : ByteArray := prog_13_method_36_code
def yX11_made : MethodName := ⟨RX11, "made", "(II)I"⟩
abbrev cX11_quarrel : ByteArray := prog_13_method_37_code
def yX11_quarrel : MethodName := ⟨RX11, "quarrel", "()I"⟩
abbrev cX11_isWell : ByteArray := prog_13_method_38_code
def yX11_isWell : MethodName := ⟨RX11, "isWell", "(I)Z"⟩
abbrev cX11_countsAt : ByteArray := prog_13_method_39_code
def yX11_countsAt : MethodName := ⟨RX11, "countsAt", "(I)Z"⟩
abbrev cX11_findAsides : ByteArray := prog_13_method_40_code
def yX11_findAsides : MethodName := ⟨RX11, "findAsides", "()I"⟩
abbrev cX11_lookAside : ByteArray := prog_13_method_41_code
def yX11_lookAside : MethodName := ⟨RX11, "lookAside", "()I"⟩
abbrev cX11_asides : ByteArray := prog_13_method_42_code
def yX11_asides : MethodName := ⟨RX11, "asides", "()I"⟩
abbrev cX11_aside : ByteArray := prog_13_method_43_code
def yX11_aside : MethodName := ⟨RX11, "aside", "(I)I"⟩
abbrev cX11_mention : ByteArray := prog_13_method_44_code
def yX11_mention : MethodName := ⟨RX11, "mention", "(IIIIIIZII)I"⟩
abbrev cX11_standsFor : ByteArray := prog_13_method_45_code
def yX11_standsFor : MethodName := ⟨RX11, "standsFor", "(III)Z"⟩
abbrev cX11_fitsSides : ByteArray := prog_13_method_46_code
def yX11_fitsSides : MethodName := ⟨RX11, "fitsSides", "(IIIIIZ)Z"⟩
abbrev cX11_fitsSizes : ByteArray := prog_13_method_47_code
def yX11_fitsSizes : MethodName := ⟨RX11, "fitsSizes", "(II)Z"⟩
abbrev cX11_ones : ByteArray := prog_13_method_48_code
def yX11_ones : MethodName := ⟨RX11, "ones", "(I)I"⟩
abbrev cX11_scoreOf : ByteArray := prog_13_method_49_code
def yX11_scoreOf : MethodName := ⟨RX11, "scoreOf", "(II)I"⟩
abbrev cX11_isMention : ByteArray := prog_13_method_50_code
def yX11_isMention : MethodName := ⟨RX11, "isMention", "(I)Z"⟩
abbrev cX11_score : ByteArray := prog_13_method_51_code
def yX11_score : MethodName := ⟨RX11, "score", "(II)I"⟩
abbrev cX11_rivalsOf : ByteArray := prog_13_method_52_code
def yX11_rivalsOf : MethodName := ⟨RX11, "rivalsOf", "(I)I"⟩
abbrev cX11_rivals : ByteArray := prog_13_method_53_code
def yX11_rivals : MethodName := ⟨RX11, "rivals", "(I)I"⟩
abbrev cX11_greatest : ByteArray := prog_13_method_54_code
def yX11_greatest : MethodName := ⟨RX11, "greatest", "()I"⟩
abbrev cX11_addWork : ByteArray := prog_13_method_55_code
def yX11_addWork : MethodName := ⟨RX11, "addWork", "(II)V"⟩
abbrev cX11_fillTable : ByteArray := prog_13_method_56_code
def yX11_fillTable : MethodName := ⟨RX11, "fillTable", "()V"⟩
abbrev cX11_takeOut : ByteArray := prog_13_method_57_code
def yX11_takeOut : MethodName := ⟨RX11, "takeOut", "(II)V"⟩
abbrev cX11_joinEvent : ByteArray := prog_13_method_58_code
def yX11_joinEvent : MethodName := ⟨RX11, "joinEvent", "(I)V"⟩
abbrev cX11_canJoin : ByteArray := prog_13_method_59_code
def yX11_canJoin : MethodName := ⟨RX11, "canJoin", "(III)Z"⟩
abbrev cX11_refresh : ByteArray := prog_13_method_60_code
def yX11_refresh : MethodName := ⟨RX11, "refresh", "()V"⟩
abbrev cX11_joinAll : ByteArray := prog_13_method_61_code
def yX11_joinAll : MethodName := ⟨RX11, "joinAll", "()V"⟩
abbrev cX11_joined : ByteArray := prog_13_method_62_code
def yX11_joined : MethodName := ⟨RX11, "joined", "(I)I"⟩
abbrev cX11_sure : ByteArray := prog_13_method_63_code
def yX11_sure : MethodName := ⟨RX11, "sure", "(I)I"⟩
abbrev cX11_sum : ByteArray := prog_13_method_64_code
def yX11_sum : MethodName := ⟨RX11, "sum", "(I)I"⟩
abbrev cX11_mentions : ByteArray := prog_13_method_65_code
def yX11_mentions : MethodName := ⟨RX11, "mentions", "(I)I"⟩
abbrev cX11_hasSure : ByteArray := prog_13_method_66_code
def yX11_hasSure : MethodName := ⟨RX11, "hasSure", "(II)Z"⟩
abbrev cX11_counted : ByteArray := prog_13_method_67_code
def yX11_counted : MethodName := ⟨RX11, "counted", "(III)I"⟩
abbrev cX11_kin : ByteArray := prog_13_method_68_code
def yX11_kin : MethodName := ⟨RX11, "kin", "(II)I"⟩
abbrev cX11_type : ByteArray := prog_13_method_69_code
def yX11_type : MethodName := ⟨RX11, "type", "(JI)I"⟩
abbrev cX11_next : ByteArray := prog_13_method_70_code
def yX11_next : MethodName := ⟨RX11, "next", "()I"⟩
abbrev cX11_number : ByteArray := prog_13_method_71_code
def yX11_number : MethodName := ⟨RX11, "number", "(II)I"⟩
abbrev cX11_takes : ByteArray := prog_13_method_72_code
def yX11_takes : MethodName := ⟨RX11, "takes", "(I)Z"⟩
abbrev cX11_readClause : ByteArray := prog_13_method_73_code
def yX11_readClause : MethodName := ⟨RX11, "readClause", "()Z"⟩
abbrev cX11_readAll : ByteArray := prog_13_method_74_code
def yX11_readAll : MethodName := ⟨RX11, "readAll", "()I"⟩
abbrev cX11_rules : ByteArray := prog_13_method_75_code
def yX11_rules : MethodName := ⟨RX11, "rules", "()I"⟩
abbrev cX11_ruleOf : ByteArray := prog_13_method_76_code
def yX11_ruleOf : MethodName := ⟨RX11, "ruleOf", "(I)I"⟩
abbrev cX11_rulePart : ByteArray := prog_13_method_77_code
def yX11_rulePart : MethodName := ⟨RX11, "rulePart", "(II)I"⟩
abbrev cX11_rule : ByteArray := prog_13_method_78_code
def yX11_rule : MethodName := ⟨RX11, "rule", "(II)I"⟩
abbrev cX11_vote : ByteArray := prog_13_method_79_code
def yX11_vote : MethodName := ⟨RX11, "vote", "(IIIIZ)I"⟩
abbrev cX11_votes : ByteArray := prog_13_method_80_code
def yX11_votes : MethodName := ⟨RX11, "votes", "(II)I"⟩
abbrev cX11_stateOf : ByteArray := prog_13_method_81_code
def yX11_stateOf : MethodName := ⟨RX11, "stateOf", "(III)I"⟩
abbrev cX11_isAsOf : ByteArray := prog_13_method_82_code
def yX11_isAsOf : MethodName := ⟨RX11, "isAsOf", "(II)Z"⟩
abbrev cX11_state : ByteArray := prog_13_method_83_code
def yX11_state : MethodName := ⟨RX11, "state", "(III)I"⟩
abbrev cX11_unsure : ByteArray := prog_13_method_84_code
def yX11_unsure : MethodName := ⟨RX11, "unsure", "(II)I"⟩
abbrev cX11_leaning : ByteArray := prog_13_method_85_code
def yX11_leaning : MethodName := ⟨RX11, "leaning", "(I)I"⟩
abbrev cX11_isAhead : ByteArray := prog_13_method_86_code
def yX11_isAhead : MethodName := ⟨RX11, "isAhead", "(II)Z"⟩
abbrev cX11_edition : ByteArray := prog_13_method_87_code
def yX11_edition : MethodName := ⟨RX11, "edition", "()I"⟩
abbrev cX11_number_ : ByteArray := prog_13_method_88_code
def yX11_number_ : MethodName := ⟨RX11, "number", "(I)I"⟩
abbrev cX11_count : ByteArray := prog_13_method_89_code
def yX11_count : MethodName := ⟨RX11, "count", "(I)I"⟩
abbrev cX11_isSheet : ByteArray := prog_13_method_90_code
def yX11_isSheet : MethodName := ⟨RX11, "isSheet", "(II)Z"⟩
abbrev cX11_sheet : ByteArray := prog_13_method_91_code
def yX11_sheet : MethodName := ⟨RX11, "sheet", "(III)I"⟩
abbrev cX11_drop : ByteArray := prog_13_method_92_code
def yX11_drop : MethodName := ⟨RX11, "drop", "(I)I"⟩
abbrev cX11_item : ByteArray := prog_13_method_93_code
def yX11_item : MethodName := ⟨RX11, "item", "(IIII)I"⟩
abbrev cX11_holdings : ByteArray := prog_13_method_94_code
def yX11_holdings : MethodName := ⟨RX11, "holdings", "(IIII)I"⟩
def RJ11 : String := "java/lang/Character"
def TJ11 : u_T := fun k => match k with
  | _ => ("", "", "", false)
def tyJ11 : Nat → FieldType := fun k => match k with
  | _ => .int
abbrev cJ11_isValidCodePoint_9a6ad : ByteArray := prog_14_method_11_code
def yJ11_isValidCodePoint_9a6ad : MethodName := ⟨RJ11, "isValidCodePoint", "(I)Z"⟩
abbrev cJ11_highSurrogate_5068e : ByteArray := prog_14_method_28_code
def yJ11_highSurrogate_5068e : MethodName := ⟨RJ11, "highSurrogate", "(I)C"⟩
abbrev cJ11_lowSurrogate_5068e : ByteArray := prog_14_method_29_code
def yJ11_lowSurrogate_5068e : MethodName := ⟨RJ11, "lowSurrogate", "(I)C"⟩
def RJ6 : String := "java/lang/Integer"
def TJ6 : u_T := fun k => match k with
  | _ => ("", "", "", false)
def tyJ6 : Nat → FieldType := fun k => match k with
  | _ => .int
abbrev cJ6_bitCount_0f7a4 : ByteArray := prog_15_method_49_code
def yJ6_bitCount_0f7a4 : MethodName := ⟨RJ6, "bitCount", "(I)I"⟩
def RJ13 : String := "java/lang/Long"
def TJ13 : u_T := fun k => match k with
  | _ => ("", "", "", false)
def tyJ13 : Nat → FieldType := fun k => match k with
  | _ => .int
abbrev cJ13_bitCount_95d88 : ByteArray := prog_16_method_50_code
def yJ13_bitCount_95d88 : MethodName := ⟨RJ13, "bitCount", "(J)I"⟩
def RJ9 : String := "java/lang/Math"
def TJ9 : u_T := fun k => match k with
  | _ => ("", "", "", false)
def tyJ9 : Nat → FieldType := fun k => match k with
  | _ => .int
abbrev cJ9_max_7cf53 : ByteArray := prog_17_method_65_code
def yJ9_max_7cf53 : MethodName := ⟨RJ9, "max", "(II)I"⟩
abbrev cJ9_min_7cf53 : ByteArray := prog_17_method_69_code
def yJ9_min_7cf53 : MethodName := ⟨RJ9, "min", "(II)I"⟩
def RJ0 : String := "java/lang/String"
def TJ0 : u_T := fun k => match k with
  | _ => ("", "", "", false)
def tyJ0 : Nat → FieldType := fun k => match k with
  | _ => .int
abbrev cJ0_length_8abf5 : ByteArray := prog_18_method_54_code
def yJ0_length_8abf5 : MethodName := ⟨RJ0, "length", "()I"⟩
abbrev cJ0_indexOf_0f7a4 : ByteArray := prog_18_method_79_code
def yJ0_indexOf_0f7a4 : MethodName := ⟨RJ0, "indexOf", "(I)I"⟩
abbrev cJ0_indexOf_7cf53 : ByteArray := prog_18_method_80_code
def yJ0_indexOf_7cf53 : MethodName := ⟨RJ0, "indexOf", "(II)I"⟩
abbrev cJ0_coder_7d493 : ByteArray := prog_18_method_152_code
def yJ0_coder_7d493 : MethodName := ⟨RJ0, "coder", "()B"⟩
abbrev cJ0_isLatin1_aae02 : ByteArray := prog_18_method_154_code
def yJ0_isLatin1_aae02 : MethodName := ⟨RJ0, "isLatin1", "()Z"⟩
abbrev cJ0_checkBoundsBeginEnd_23922 : ByteArray := prog_18_method_158_code
def yJ0_checkBoundsBeginEnd_23922 : MethodName := ⟨RJ0, "checkBoundsBeginEnd", "(III)V"⟩
def RJ1 : String := "java/lang/StringLatin1"
def TJ1 : u_T := fun k => match k with
  | _ => ("", "", "", false)
def tyJ1 : Nat → FieldType := fun k => match k with
  | _ => .int
abbrev cJ1_canEncode_9a6ad : ByteArray := prog_19_method_4_code
def yJ1_canEncode_9a6ad : MethodName := ⟨RJ1, "canEncode", "(I)Z"⟩
abbrev cJ1_indexOf_4cfef : ByteArray := prog_19_method_22_code
def yJ1_indexOf_4cfef : MethodName := ⟨RJ1, "indexOf", "([BIII)I"⟩
abbrev cJ1_indexOfChar_4cfef : ByteArray := prog_19_method_23_code
def yJ1_indexOfChar_4cfef : MethodName := ⟨RJ1, "indexOfChar", "([BIII)I"⟩
def RJ2 : String := "java/lang/StringUTF16"
def TJ2 : u_T := fun k => match k with
  | _ => ("", "", "", false)
def tyJ2 : Nat → FieldType := fun k => match k with
  | _ => .int
abbrev cJ2_getChar_3b067 : ByteArray := prog_20_method_5_code
def yJ2_getChar_3b067 : MethodName := ⟨RJ2, "getChar", "([BI)C"⟩
abbrev cJ2_length_9d52b : ByteArray := prog_20_method_6_code
def yJ2_length_9d52b : MethodName := ⟨RJ2, "length", "([B)I"⟩
abbrev cJ2_indexOf_4cfef : ByteArray := prog_20_method_40_code
def yJ2_indexOf_4cfef : MethodName := ⟨RJ2, "indexOf", "([BIII)I"⟩
abbrev cJ2_indexOfChar_4cfef : ByteArray := prog_20_method_47_code
def yJ2_indexOfChar_4cfef : MethodName := ⟨RJ2, "indexOfChar", "([BIII)I"⟩
abbrev cJ2_indexOfCharUnsafe_4cfef : ByteArray := prog_20_method_48_code
def yJ2_indexOfCharUnsafe_4cfef : MethodName := ⟨RJ2, "indexOfCharUnsafe", "([BIII)I"⟩
abbrev cJ2_indexOfSupplementary_4cfef : ByteArray := prog_20_method_49_code
def yJ2_indexOfSupplementary_4cfef : MethodName := ⟨RJ2, "indexOfSupplementary", "([BIII)I"⟩
abbrev cJ2_checkBoundsBeginEnd_d044e : ByteArray := prog_20_method_93_code
def yJ2_checkBoundsBeginEnd_d044e : MethodName := ⟨RJ2, "checkBoundsBeginEnd", "(II[B)V"⟩
def RJ10 : String := "java/lang/System"
def TJ10 : u_T := fun k => match k with
  | _ => ("", "", "", false)
def tyJ10 : Nat → FieldType := fun k => match k with
  | _ => .int
def RJ7 : String := "java/util/Arrays"
def TJ7 : u_T := fun k => match k with
  | _ => ("", "", "", false)
def tyJ7 : Nat → FieldType := fun k => match k with
  | _ => .int
abbrev cJ7_fill_d0a16 : ByteArray := prog_22_method_101_code
def yJ7_fill_d0a16 : MethodName := ⟨RJ7, "fill", "([JJ)V"⟩
abbrev cJ7_fill_53178 : ByteArray := prog_22_method_103_code
def yJ7_fill_53178 : MethodName := ⟨RJ7, "fill", "([II)V"⟩
def RJ3 : String := "jdk/internal/util/Preconditions"
def TJ3 : u_T := fun k => match k with
  | _ => ("", "", "", false)
def tyJ3 : Nat → FieldType := fun k => match k with
  | _ => .int
abbrev cJ3_checkFromToIndex_8c36e : ByteArray := prog_23_method_12_code
def yJ3_checkFromToIndex_8c36e : MethodName := ⟨RJ3, "checkFromToIndex", "(IIILjava/util/function/BiFunction;)I"⟩
def RL : String := "LifeListLaw"
abbrev cL_law : ByteArray := code
def yL_law : MethodName := ⟨RL, "law", "([I)Z"⟩
abbrev vwCl : List vw_C := [(RX0, TX0, 10), (RX1, TX1, 8), (RX2, TX2, 6), (RX3, TX3, 9), (RX4, TX4, 14), (RX5, TX5, 7), (RX6, TX6, 6), (RX7, TX7, 3), (RX8, TX8, 14), (RX9, TX9, 14), (RX10, TX10, 9), (RX11, TX11, 59)]
/-! ===== THE MACHINE IN SMALL: pure, with resolved instructions ===== -/
/-- a cell's shape: its tag, its length, its references; tags below 100: objects by their class's number; 100 int[], 101 boolean[], 102 long[], 103 char[], 104 int[][], 105 long[][], 200 an int[] that nobody writes -/
abbrev mS : Type := Nat × Nat × List (Option Nat)
/-- a heap: the shapes, the ints by place and slot, the longs by place and slot -/
abbrev mH : Type := List mS × (Nat → Nat → Int32) × (Nat → Nat → Int64)
abbrev mL : Type := List (Option Value)
/-- an instruction: is it a stop, its index, its pc, itself, its length, what it resolves to, its int, its long -/
abbrev mI : Type := Bool × Nat × Nat × Instr × Nat × List Nat × Int32 × Int64
abbrev mN : Type := Option Nat × mL × List Value × mH
abbrev mA : Type := Option (Option Prop × List (Option Prop × mN))
abbrev mC : Type := Nat → List Value → mH → (Option Value → mH → Prop) → Prop
def m_nth {α : Type} : List α → Nat → Option α
  | [], _ => none
  | a :: _, 0 => some a
  | _ :: t, n + 1 => m_nth t n
def m_drop {α : Type} : List α → Nat → List α
  | l, 0 => l
  | [], _ + 1 => []
  | _ :: t, n + 1 => m_drop t n
theorem m_nth_eq {α : Type} : ∀ (l : List α) (n : Nat), m_nth l n = l[n]?
  | [], _ => by simp [m_nth]
  | a :: _, 0 => by simp [m_nth]
  | _ :: t, n + 1 => by simp [m_nth, m_nth_eq t n]
theorem m_drop_eq {α : Type} : ∀ (l : List α) (n : Nat), m_drop l n = l.drop n
  | l, 0 => by simp [m_drop]
  | [], _ + 1 => by simp [m_drop]
  | _ :: t, n + 1 => by simp [m_drop, m_drop_eq t n]
theorem m_drop_cons {α : Type} {l r : List α} {n : Nat} {a : α} (h : m_drop l n = a :: r) : l[n]? = some a ∧ r = m_drop l (n + 1) := by
  rw [m_drop_eq] at h
  rw [m_drop_eq]
  constructor
  · have := congrArg (fun x => x[0]?) h
    simpa using this
  · rw [← List.drop_drop, h]
    rfl
def m_ui (f : Nat → Nat → Int32) (k j : Nat) (v : Int32) : Nat → Nat → Int32 := fun a i => if a = k then (if i = j then v else f a i) else f a i
def m_ul (f : Nat → Nat → Int64) (k j : Nat) (v : Int64) : Nat → Nat → Int64 := fun a i => if a = k then (if i = j then v else f a i) else f a i
def m_ci (n : Nat) (f : Nat → Nat → Int32) : Nat → Nat → Int32 := fun a i => if a < n then f a i else 0
def m_cl (n : Nat) (f : Nat → Nat → Int64) : Nat → Nat → Int64 := fun a i => if a < n then f a i else 0
def m_s1 (l : List mS) : Nat := (l.map fun c => c.2.1).sum
/-- the slots of the new cells -/
def m_sz (l : List mS) : Nat := m_s1 (l.drop 5)
def m_go (ls : mL) (st : List Value) (h : mH) : mA := some (none, [(none, (none, ls, st, h))])
def m_sd (p : Prop) (ls : mL) (st : List Value) (h : mH) : mA := some (some p, [(none, (none, ls, st, h))])
def m_br (c : Prop) (t : Nat) (ls : mL) (st : List Value) (h : mH) : mA := some (none, [(some c, (some t, ls, st, h)), (some (¬ c), (none, ls, st, h))])
def m_ld : mL → Nat → (Value → mA) → mA
  | some v :: _, 0, k => k v
  | _ :: t, n + 1, k => m_ld t n k
  | _, _, _ => none
def m_k2 (x : Option Value) (k : Option Value → mA) : mA := match x with
  | some (.long _) => k none
  | some (.double _) => k none
  | some v => k (some v)
  | none => k none
/-- a store of one slot; a long ahead of it goes -/
def m_st : mL → Nat → Value → (mL → mA) → mA
  | _ :: t, 0, v, k => k (some v :: t)
  | x :: _ :: t, 1, v, k => m_k2 x (fun x' => k (x' :: some v :: t))
  | x :: t, n + 2, v, k => m_st t (n + 1) v (fun t' => k (x :: t'))
  | _, _, _, _ => none
/-- a store of two slots -/
def m_st2 : mL → Nat → Value → (mL → mA) → mA
  | _ :: _ :: t, 0, v, k => k (some v :: none :: t)
  | x :: _ :: _ :: t, 1, v, k => m_k2 x (fun x' => k (x' :: some v :: none :: t))
  | x :: t, n + 2, v, k => m_st2 t (n + 1) v (fun t' => k (x :: t'))
  | _, _, _, _ => none
def m_arr (h : mH) (k tg : Nat) (f : Nat → List (Option Nat) → mA) : mA := match m_nth h.1 k with
  | some (t, n, r) => (match Nat.beq t tg with | true => f n r | false => none)
  | none => none
def m_arr2 (h : mH) (k tg tg2 : Nat) (f : Nat → mA) : mA := match m_nth h.1 k with
  | some (t, n, _) => (match (Nat.beq t tg || Nat.beq t tg2) with | true => f n | false => none)
  | none => none
def m_alen (h : mH) (k : Nat) (f : Nat → mA) : mA := match m_nth h.1 k with
  | some (t, n, _) => (match ((Nat.ble 100 t && Nat.ble t 105) || Nat.beq t 200) with | true => f n | false => none)
  | none => none
def m_atag : ArrayType → Nat
  | .int => 100
  | .boolean => 101
  | .long => 102
  | .char => 103
  | _ => 199
def m_nop (no : Option Prop) (a : Prop) : Option Prop := match no with
  | none => some a
  | some q => some (q ∧ a)
def m_sw (x : Int32) (ls : mL) (st : List Value) (h : mH) (d : Nat) : Int32 → List Nat → Option Prop → List (Option Prop × mN)
  | _, [], no => [(no, (some d, ls, st, h))]
  | v, t :: ts, no => (some (x = v), (some t, ls, st, h)) :: m_sw x ls st h d (v + 1) ts (m_nop no (¬ x = v))
def m_bin (ls : mL) (st : List Value) (h : mH) (f : Int32 → Int32 → Int32) : mA := match st with
  | .int y :: .int x :: s => m_go ls (.int (f x y) :: s) h
  | _ => none
def m_binl (ls : mL) (st : List Value) (h : mH) (f : Int64 → Int64 → Int64) : mA := match st with
  | .long y :: .long x :: s => m_go ls (.long (f x y) :: s) h
  | _ => none
def m_shl (ls : mL) (st : List Value) (h : mH) (f : Int64 → Int32 → Int64) : mA := match st with
  | .int y :: .long x :: s => m_go ls (.long (f x y) :: s) h
  | _ => none
def m_ldi (ls : mL) (i : Nat) (st : List Value) (h : mH) : mA := m_ld ls i (fun v => match v with | .int x => m_go ls (.int x :: st) h | _ => none)
def m_ldl (ls : mL) (i : Nat) (st : List Value) (h : mH) : mA := m_ld ls i (fun v => match v with | .long x => m_go ls (.long x :: st) h | _ => none)
def m_lda (ls : mL) (i : Nat) (st : List Value) (h : mH) : mA := m_ld ls i (fun v => match v with | .ref x => m_go ls (.ref x :: st) h | _ => none)
def m_sti (ls : mL) (i : Nat) (st : List Value) (h : mH) : mA := match st with
  | .int x :: s => m_st ls i (.int x) (fun l => m_go l s h)
  | _ => none
def m_sta (ls : mL) (i : Nat) (st : List Value) (h : mH) : mA := match st with
  | .ref x :: s => m_st ls i (.ref x) (fun l => m_go l s h)
  | _ => none
def m_stl (ls : mL) (i : Nat) (st : List Value) (h : mH) : mA := match st with
  | .long x :: s => m_st2 ls i (.long x) (fun l => m_go l s h)
  | _ => none
def m_if (c : Jvm.ClassFile.Cond) (x y : Int32) (t : Nat) (ls : mL) (st : List Value) (h : mH) : mA := match c with
  | .eq => m_br (x = y) t ls st h
  | .ne => some (none, [(some (¬ x = y), (some t, ls, st, h)), (some (x = y), (none, ls, st, h))])
  | .lt => m_br (x < y) t ls st h
  | .ge => m_br (y ≤ x) t ls st h
  | .gt => m_br (y < x) t ls st h
  | .le => m_br (x ≤ y) t ls st h
/-- a heap's three parts -/
def m_hK (h : mH) (k : List mS → (Nat → Nat → Int32) → (Nat → Nat → Int64) → mA) : mA := match h with
  | (a, b, c) => k a b c
theorem m_hK_eq (h : mH) (k : List mS → (Nat → Nat → Int32) → (Nat → Nat → Int64) → mA) : m_hK h k = k h.1 h.2.1 h.2.2 := rfl
/-- lists made out of their places at once: their parts come out whole -/
def m_appK {α : Type} : List α → List α → (List α → mA) → mA
  | [], b, k => k b
  | x :: a, b, k => m_appK a b (fun t => k (x :: t))
def m_setK {α : Type} : List α → Nat → α → (List α → mA) → mA
  | [], _, _, k => k []
  | _ :: t, 0, v, k => k (v :: t)
  | x :: t, n + 1, v, k => m_setK t n v (fun t' => k (x :: t'))
def m_lenK {α : Type} : List α → Nat → (Nat → mA) → mA
  | [], n, k => k n
  | _ :: t, n, k => m_lenK t (n + 1) k
theorem m_lenK_eq {α : Type} : ∀ (a : List α) (n : Nat) (k : Nat → mA), m_lenK a n k = k (n + a.length)
  | [], n, k => rfl
  | x :: a, n, k => by
    simp only [m_lenK, m_lenK_eq a (n + 1), List.length_cons]
    congr 1
    omega
theorem m_appK_eq {α : Type} : ∀ (a b : List α) (k : List α → mA), m_appK a b k = k (a ++ b)
  | [], b, k => rfl
  | x :: a, b, k => by simp [m_appK, m_appK_eq a b]
theorem m_setK_eq {α : Type} : ∀ (a : List α) (n : Nat) (v : α) (k : List α → mA), m_setK a n v k = k (a.set n v)
  | [], n, v, k => by cases n <;> rfl
  | x :: a, 0, v, k => rfl
  | x :: a, n + 1, v, k => by simp [m_setK, m_setK_eq a n]
def m_aald (ls : mL) (st : List Value) (h : mH) : mA := match st with
  | .int i :: .ref k :: s => (match m_nth h.1 k with
    | some (t, n, r) => (match (Nat.beq t 104 || Nat.beq t 105) with
      | true => some (some (vp_in i n ∧ i.toNatClampNeg < r.length ∧ (r.getD i.toNatClampNeg none).isSome), [(none, (none, ls, .ref ((r.getD i.toNatClampNeg none).getD 0) :: s, h))])
      | false => none)
    | none => none)
  | _ => none
def m_getf (an : List Nat) (ls : mL) (st : List Value) (h : mH) : mA := m_hK h (fun hs hi hl => match an, st with
  | [_, ci, j, kd], .ref k :: s => m_arr h k ci (fun _ r => match kd with
    | 0 => m_go ls (.int (hi k j) :: s) h
    | 1 => m_go ls (.long (hl k j) :: s) h
    | _ => (match m_nth r j with
      | some (some a) => m_go ls (.ref a :: s) h
      | _ => none))
  | _, _ => none)
def m_putf (an : List Nat) (ls : mL) (st : List Value) (h : mH) : mA := m_hK h (fun hs hi hl => match an, st with
  | [_, ci, j, 0], .int x :: .ref k :: s => m_arr h k ci (fun _ _ => m_go ls s (hs, m_ui hi k j x, hl))
  | [_, ci, j, 3], .int x :: .ref k :: s => m_arr h k ci (fun _ _ => m_sd (x = 0 ∨ x = 1) ls s (hs, m_ui hi k j x, hl))
  | [_, ci, j, 2], .ref a :: .ref k :: s => m_arr h k ci (fun n r => m_setK r j (some a) (fun r' => m_setK hs k (ci, n, r') (fun l => m_go ls s (l, hi, hl))))
  | _, _ => none)
/-- one instruction, but calls and returns -/
def m_act (B : Option (Nat × Nat)) (e : mI) (ls : mL) (st : List Value) (h : mH) : mA := match e with
  | (_, _, _, ins, _, an, kv, kl) => m_hK h (fun hs hi hl => match ins with
    | .iconst _ => m_go ls (.int kv :: st) h
    | .bipush _ => m_go ls (.int kv :: st) h
    | .sipush _ => m_go ls (.int kv :: st) h
    | .ldc _ => (match an with | [] => m_go ls (.int kv :: st) h | [a] => m_go ls (.ref a :: st) h | _ => none)
    | .ldc_w _ => m_go ls (.int kv :: st) h
    | .lconst _ => m_go ls (.long kl :: st) h
    | .ldc2_w _ => m_go ls (.long kl :: st) h
    | .iload i => m_ldi ls i st h
    | .iload_n i => m_ldi ls i.val st h
    | .lload i => m_ldl ls i st h
    | .lload_n i => m_ldl ls i.val st h
    | .aload i => m_lda ls i st h
    | .aload_n i => m_lda ls i.val st h
    | .istore i => m_sti ls i st h
    | .istore_n i => m_sti ls i.val st h
    | .lstore i => m_stl ls i st h
    | .lstore_n i => m_stl ls i.val st h
    | .astore i => m_sta ls i st h
    | .astore_n i => m_sta ls i.val st h
    | .iinc i _ => m_ld ls i (fun v => match v with | .int x => m_st ls i (.int (x + kv)) (fun l => m_go l st h) | _ => none)
    | .iadd => m_bin ls st h (fun x y => x + y)
    | .isub => m_bin ls st h (fun x y => x - y)
    | .imul => m_bin ls st h (fun x y => x * y)
    | .iand => m_bin ls st h (fun x y => x &&& y)
    | .ior => m_bin ls st h (fun x y => x ||| y)
    | .ixor => m_bin ls st h (fun x y => x ^^^ y)
    | .ishl => m_bin ls st h (fun x y => x <<< (y &&& 31))
    | .ishr => m_bin ls st h (fun x y => x >>> (y &&& 31))
    | .iushr => m_bin ls st h (fun x y => (x.toUInt32 >>> (y.toUInt32 &&& Int32.toUInt32 31)).toInt32)
    | .idiv => (match st with | .int y :: .int x :: s => m_sd (¬ y = 0) ls (.int (x / y) :: s) h | _ => none)
    | .ineg => (match st with | .int x :: s => m_go ls (.int (-x) :: s) h | _ => none)
    | .ladd => m_binl ls st h (fun x y => x + y)
    | .lsub => m_binl ls st h (fun x y => x - y)
    | .lmul => m_binl ls st h (fun x y => x * y)
    | .land => m_binl ls st h (fun x y => x &&& y)
    | .lor => m_binl ls st h (fun x y => x ||| y)
    | .ldiv => (match st with | .long y :: .long x :: s => m_sd (¬ y = 0) ls (.long (x / y) :: s) h | _ => none)
    | .lneg => (match st with | .long x :: s => m_go ls (.long (-x) :: s) h | _ => none)
    | .lshl => m_shl ls st h (fun x y => x <<< (y.toInt64 &&& 63))
    | .lshr => m_shl ls st h (fun x y => x >>> (y.toInt64 &&& 63))
    | .lushr => m_shl ls st h (fun x y => (x.toUInt64 >>> (y.toInt64.toUInt64 &&& Int64.toUInt64 63)).toInt64)
    | .lcmp => (match st with | .long y :: .long x :: s => m_go ls (.int (lg_cmp x y) :: s) h | _ => none)
    | .i2l => (match st with | .int x :: s => m_go ls (.long x.toInt64 :: s) h | _ => none)
    | .l2i => (match st with | .long x :: s => m_go ls (.int x.toInt32 :: s) h | _ => none)
    | .i2s => (match st with | .int x :: s => m_go ls (.int x.toInt16.toInt32 :: s) h | _ => none)
    | .i2c => (match st with | .int x :: s => m_go ls (.int (x.toUInt32 % 65536).toInt32 :: s) h | _ => none)
    | .dup => (match st with | .int x :: s => m_go ls (.int x :: .int x :: s) h | .ref x :: s => m_go ls (.ref x :: .ref x :: s) h | _ => none)
    | .dup_x1 => (match st with | .int x :: .ref y :: s => m_go ls (.int x :: .ref y :: .int x :: s) h | _ => none)
    | .dup2 => (match st with | .int x :: .ref y :: s => m_go ls (.int x :: .ref y :: .int x :: .ref y :: s) h | _ => none)
    | .pop => (match st with | .int _ :: s => m_go ls s h | _ => none)
    | .goto _ => (match an with | [t] => some (none, [(none, (some t, ls, st, h))]) | _ => none)
    | .ifCond c _ => (match an, st with | [t], .int x :: s => m_if c x 0 t ls s h | _, _ => none)
    | .if_icmp c _ => (match an, st with | [t], .int y :: .int x :: s => m_if c x y t ls s h | _, _ => none)
    | .tableswitch _ _ _ _ => (match an, st with | d :: ts, .int x :: s => some (none, m_sw x ls s h d kv ts none) | _, _ => none)
    | .arraylength => (match st with | .ref k :: s => m_alen h k (fun n => m_go ls (.int (Int32.ofNat n) :: s) h) | _ => none)
    | .iaload => (match st with | .int i :: .ref k :: s => m_arr2 h k 100 200 (fun n => m_sd (vp_in i n) ls (.int (hi k i.toNatClampNeg) :: s) h) | _ => none)
    | .baload => (match st with | .int i :: .ref k :: s => m_arr h k 101 (fun n _ => m_sd (vp_in i n) ls (.int (hi k i.toNatClampNeg) :: s) h) | _ => none)
    | .caload => (match st with | .int i :: .ref k :: s => m_arr h k 103 (fun n _ => m_sd (vp_in i n) ls (.int (hi k i.toNatClampNeg) :: s) h) | _ => none)
    | .laload => (match st with | .int i :: .ref k :: s => m_arr h k 102 (fun n _ => m_sd (vp_in i n) ls (.long (hl k i.toNatClampNeg) :: s) h) | _ => none)
    | .aaload => m_aald ls st h
    | .iastore => (match st with | .int x :: .int i :: .ref k :: s => m_arr h k 100 (fun n _ => m_sd (vp_in i n) ls s (hs, m_ui hi k i.toNatClampNeg x, hl)) | _ => none)
    | .bastore => (match st with | .int x :: .int i :: .ref k :: s => m_arr h k 101 (fun n _ => m_sd (vp_in i n) ls s (hs, m_ui hi k i.toNatClampNeg (vp_nar .boolean x), hl)) | _ => none)
    | .castore => (match st with | .int x :: .int i :: .ref k :: s => m_arr h k 103 (fun n _ => m_sd (vp_in i n) ls s (hs, m_ui hi k i.toNatClampNeg (vp_nar .char x), hl)) | _ => none)
    | .lastore => (match st with | .long x :: .int i :: .ref k :: s => m_arr h k 102 (fun n _ => m_sd (vp_in i n) ls s (hs, hi, m_ul hl k i.toNatClampNeg x)) | _ => none)
    | .getstatic _ => (match an with | [a] => m_go ls (.ref a :: st) h | _ => none)
    | .getfield _ => m_getf an ls st h
    | .putfield _ => m_putf an ls st h
    | .new _ => (match B, an with
        | some b, [ci, n] => m_lenK hs 0 (fun z => m_appK (List.replicate n none) [] (fun r => m_appK hs [(ci, n, r)] (fun l => m_sd (z + 1 ≤ b.1 ∧ m_sz hs + n ≤ b.2) ls (.ref z :: st) (l, m_ci z hi, m_cl z hl))))
        | _, _ => none)
    | .newarray ty => (match B, st with
        | some b, .int n :: s => m_lenK hs 0 (fun z => m_appK hs [(m_atag ty, n.toNatClampNeg, [])] (fun l => m_sd (¬ n < 0 ∧ n.toNatClampNeg ≤ 1000 ∧ z + 1 ≤ b.1 ∧ m_sz hs + n.toNatClampNeg ≤ b.2) ls (.ref z :: s) (l, m_ci z hi, m_cl z hl)))
        | _, _ => none)
    | .multianewarray _ _ => (match B, an, st with
        | some b, [to, ti], .int k :: .int n :: s => m_lenK hs 0 (fun z => m_appK ((List.range n.toNatClampNeg).map (fun i => some (z + 1 + i))) [] (fun r => m_appK (List.replicate n.toNatClampNeg (ti, k.toNatClampNeg, [])) [] (fun q => m_appK hs ((to, n.toNatClampNeg, r) :: q) (fun l =>
            m_sd (¬ n < 0 ∧ ¬ k < 0 ∧ n.toNatClampNeg ≤ 1000 ∧ k.toNatClampNeg ≤ 1000 ∧ z + (1 + n.toNatClampNeg) ≤ b.1 ∧ m_sz hs + (n.toNatClampNeg + n.toNatClampNeg * k.toNatClampNeg) ≤ b.2) ls (.ref z :: s) (l, m_ci z hi, m_cl z hl)))))
        | _, _, _ => none)
    | _ => none)
def m_getf0 (an : List Nat) (ls : mL) (st : List Value) (h : mH) : mA := match an, st with
  | [_, ci, j, kd], .ref k :: s => m_arr h k ci (fun _ r => match kd with
    | 0 => m_go ls (.int (h.2.1 k j) :: s) h
    | 1 => m_go ls (.long (h.2.2 k j) :: s) h
    | _ => (match m_nth r j with
      | some (some a) => m_go ls (.ref a :: s) h
      | _ => none))
  | _, _ => none
def m_putf0 (an : List Nat) (ls : mL) (st : List Value) (h : mH) : mA := match an, st with
  | [_, ci, j, 0], .int x :: .ref k :: s => m_arr h k ci (fun _ _ => m_go ls s (h.1, m_ui h.2.1 k j x, h.2.2))
  | [_, ci, j, 3], .int x :: .ref k :: s => m_arr h k ci (fun _ _ => m_sd (x = 0 ∨ x = 1) ls s (h.1, m_ui h.2.1 k j x, h.2.2))
  | [_, ci, j, 2], .ref a :: .ref k :: s => m_arr h k ci (fun n r => m_setK r j (some a) (fun r' => m_setK h.1 k (ci, n, r') (fun l => m_go ls s (l, h.2.1, h.2.2))))
  | _, _ => none
/-- the same, for the proofs -/
def m_act0 (B : Option (Nat × Nat)) (e : mI) (ls : mL) (st : List Value) (h : mH) : mA := match e with
  | (_, _, _, ins, _, an, kv, kl) => match ins with
    | .iconst _ => m_go ls (.int kv :: st) h
    | .bipush _ => m_go ls (.int kv :: st) h
    | .sipush _ => m_go ls (.int kv :: st) h
    | .ldc _ => (match an with | [] => m_go ls (.int kv :: st) h | [a] => m_go ls (.ref a :: st) h | _ => none)
    | .ldc_w _ => m_go ls (.int kv :: st) h
    | .lconst _ => m_go ls (.long kl :: st) h
    | .ldc2_w _ => m_go ls (.long kl :: st) h
    | .iload i => m_ldi ls i st h
    | .iload_n i => m_ldi ls i.val st h
    | .lload i => m_ldl ls i st h
    | .lload_n i => m_ldl ls i.val st h
    | .aload i => m_lda ls i st h
    | .aload_n i => m_lda ls i.val st h
    | .istore i => m_sti ls i st h
    | .istore_n i => m_sti ls i.val st h
    | .lstore i => m_stl ls i st h
    | .lstore_n i => m_stl ls i.val st h
    | .astore i => m_sta ls i st h
    | .astore_n i => m_sta ls i.val st h
    | .iinc i _ => m_ld ls i (fun v => match v with | .int x => m_st ls i (.int (x + kv)) (fun l => m_go l st h) | _ => none)
    | .iadd => m_bin ls st h (fun x y => x + y)
    | .isub => m_bin ls st h (fun x y => x - y)
    | .imul => m_bin ls st h (fun x y => x * y)
    | .iand => m_bin ls st h (fun x y => x &&& y)
    | .ior => m_bin ls st h (fun x y => x ||| y)
    | .ixor => m_bin ls st h (fun x y => x ^^^ y)
    | .ishl => m_bin ls st h (fun x y => x <<< (y &&& 31))
    | .ishr => m_bin ls st h (fun x y => x >>> (y &&& 31))
    | .iushr => m_bin ls st h (fun x y => (x.toUInt32 >>> (y.toUInt32 &&& Int32.toUInt32 31)).toInt32)
    | .idiv => (match st with | .int y :: .int x :: s => m_sd (¬ y = 0) ls (.int (x / y) :: s) h | _ => none)
    | .ineg => (match st with | .int x :: s => m_go ls (.int (-x) :: s) h | _ => none)
    | .ladd => m_binl ls st h (fun x y => x + y)
    | .lsub => m_binl ls st h (fun x y => x - y)
    | .lmul => m_binl ls st h (fun x y => x * y)
    | .land => m_binl ls st h (fun x y => x &&& y)
    | .lor => m_binl ls st h (fun x y => x ||| y)
    | .ldiv => (match st with | .long y :: .long x :: s => m_sd (¬ y = 0) ls (.long (x / y) :: s) h | _ => none)
    | .lneg => (match st with | .long x :: s => m_go ls (.long (-x) :: s) h | _ => none)
    | .lshl => m_shl ls st h (fun x y => x <<< (y.toInt64 &&& 63))
    | .lshr => m_shl ls st h (fun x y => x >>> (y.toInt64 &&& 63))
    | .lushr => m_shl ls st h (fun x y => (x.toUInt64 >>> (y.toInt64.toUInt64 &&& Int64.toUInt64 63)).toInt64)
    | .lcmp => (match st with | .long y :: .long x :: s => m_go ls (.int (lg_cmp x y) :: s) h | _ => none)
    | .i2l => (match st with | .int x :: s => m_go ls (.long x.toInt64 :: s) h | _ => none)
    | .l2i => (match st with | .long x :: s => m_go ls (.int x.toInt32 :: s) h | _ => none)
    | .i2s => (match st with | .int x :: s => m_go ls (.int x.toInt16.toInt32 :: s) h | _ => none)
    | .i2c => (match st with | .int x :: s => m_go ls (.int (x.toUInt32 % 65536).toInt32 :: s) h | _ => none)
    | .dup => (match st with | .int x :: s => m_go ls (.int x :: .int x :: s) h | .ref x :: s => m_go ls (.ref x :: .ref x :: s) h | _ => none)
    | .dup_x1 => (match st with | .int x :: .ref y :: s => m_go ls (.int x :: .ref y :: .int x :: s) h | _ => none)
    | .dup2 => (match st with | .int x :: .ref y :: s => m_go ls (.int x :: .ref y :: .int x :: .ref y :: s) h | _ => none)
    | .pop => (match st with | .int _ :: s => m_go ls s h | _ => none)
    | .goto _ => (match an with | [t] => some (none, [(none, (some t, ls, st, h))]) | _ => none)
    | .ifCond c _ => (match an, st with | [t], .int x :: s => m_if c x 0 t ls s h | _, _ => none)
    | .if_icmp c _ => (match an, st with | [t], .int y :: .int x :: s => m_if c x y t ls s h | _, _ => none)
    | .tableswitch _ _ _ _ => (match an, st with | d :: ts, .int x :: s => some (none, m_sw x ls s h d kv ts none) | _, _ => none)
    | .arraylength => (match st with | .ref k :: s => m_alen h k (fun n => m_go ls (.int (Int32.ofNat n) :: s) h) | _ => none)
    | .iaload => (match st with | .int i :: .ref k :: s => m_arr2 h k 100 200 (fun n => m_sd (vp_in i n) ls (.int (h.2.1 k i.toNatClampNeg) :: s) h) | _ => none)
    | .baload => (match st with | .int i :: .ref k :: s => m_arr h k 101 (fun n _ => m_sd (vp_in i n) ls (.int (h.2.1 k i.toNatClampNeg) :: s) h) | _ => none)
    | .caload => (match st with | .int i :: .ref k :: s => m_arr h k 103 (fun n _ => m_sd (vp_in i n) ls (.int (h.2.1 k i.toNatClampNeg) :: s) h) | _ => none)
    | .laload => (match st with | .int i :: .ref k :: s => m_arr h k 102 (fun n _ => m_sd (vp_in i n) ls (.long (h.2.2 k i.toNatClampNeg) :: s) h) | _ => none)
    | .aaload => m_aald ls st h
    | .iastore => (match st with | .int x :: .int i :: .ref k :: s => m_arr h k 100 (fun n _ => m_sd (vp_in i n) ls s (h.1, m_ui h.2.1 k i.toNatClampNeg x, h.2.2)) | _ => none)
    | .bastore => (match st with | .int x :: .int i :: .ref k :: s => m_arr h k 101 (fun n _ => m_sd (vp_in i n) ls s (h.1, m_ui h.2.1 k i.toNatClampNeg (vp_nar .boolean x), h.2.2)) | _ => none)
    | .castore => (match st with | .int x :: .int i :: .ref k :: s => m_arr h k 103 (fun n _ => m_sd (vp_in i n) ls s (h.1, m_ui h.2.1 k i.toNatClampNeg (vp_nar .char x), h.2.2)) | _ => none)
    | .lastore => (match st with | .long x :: .int i :: .ref k :: s => m_arr h k 102 (fun n _ => m_sd (vp_in i n) ls s (h.1, h.2.1, m_ul h.2.2 k i.toNatClampNeg x)) | _ => none)
    | .getstatic _ => (match an with | [a] => m_go ls (.ref a :: st) h | _ => none)
    | .getfield _ => m_getf0 an ls st h
    | .putfield _ => m_putf0 an ls st h
    | .new _ => (match B, an with
        | some b, [ci, n] => m_lenK h.1 0 (fun z => m_appK (List.replicate n none) [] (fun r => m_appK h.1 [(ci, n, r)] (fun l => m_sd (z + 1 ≤ b.1 ∧ m_sz h.1 + n ≤ b.2) ls (.ref z :: st) (l, m_ci z h.2.1, m_cl z h.2.2))))
        | _, _ => none)
    | .newarray ty => (match B, st with
        | some b, .int n :: s => m_lenK h.1 0 (fun z => m_appK h.1 [(m_atag ty, n.toNatClampNeg, [])] (fun l => m_sd (¬ n < 0 ∧ n.toNatClampNeg ≤ 1000 ∧ z + 1 ≤ b.1 ∧ m_sz h.1 + n.toNatClampNeg ≤ b.2) ls (.ref z :: s) (l, m_ci z h.2.1, m_cl z h.2.2)))
        | _, _ => none)
    | .multianewarray _ _ => (match B, an, st with
        | some b, [to, ti], .int k :: .int n :: s => m_lenK h.1 0 (fun z => m_appK ((List.range n.toNatClampNeg).map (fun i => some (z + 1 + i))) [] (fun r => m_appK (List.replicate n.toNatClampNeg (ti, k.toNatClampNeg, [])) [] (fun q => m_appK h.1 ((to, n.toNatClampNeg, r) :: q) (fun l =>
            m_sd (¬ n < 0 ∧ ¬ k < 0 ∧ n.toNatClampNeg ≤ 1000 ∧ k.toNatClampNeg ≤ 1000 ∧ z + (1 + n.toNatClampNeg) ≤ b.1 ∧ m_sz h.1 + (n.toNatClampNeg + n.toNatClampNeg * k.toNatClampNeg) ≤ b.2) ls (.ref z :: s) (l, m_ci z h.2.1, m_cl z h.2.2)))))
        | _, _, _ => none)
    | _ => none
theorem m_act_eq (B : Option (Nat × Nat)) (e : mI) (ls : mL) (st : List Value) (h : mH) : m_act B e ls st h = m_act0 B e ls st h := by
  obtain ⟨sp, ix, pc, ins, len, an, kv, kl⟩ := e
  cases ins <;> rfl
def m_popn : List Value → Nat → List Value → (List Value → List Value → Prop) → Prop
  | st, 0, acc, k => k acc st
  | v :: st, n + 1, acc, k => m_popn st n (v :: acc) k
  | [], _ + 1, _, _ => False
def m_alls (P r : List mI) (X : List mI → mL → List Value → mH → Prop) : List (Option Prop × mN) → Prop
  | [] => True
  | [(none, (none, ls, st, h))] => X r ls st h
  | [(none, (some t, ls, st, h))] => X (m_drop P t) ls st h
  | [(some c, (none, ls, st, h))] => c → X r ls st h
  | [(some c, (some t, ls, st, h))] => c → X (m_drop P t) ls st h
  | (some c, (none, ls, st, h)) :: q => (c → X r ls st h) ∧ m_alls P r X q
  | (some c, (some t, ls, st, h)) :: q => (c → X (m_drop P t) ls st h) ∧ m_alls P r X q
  | (none, (none, ls, st, h)) :: q => X r ls st h ∧ m_alls P r X q
  | (none, (some t, ls, st, h)) :: q => X (m_drop P t) ls st h ∧ m_alls P r X q
def m_end (B : Option (Nat × Nat)) (h : mH) (q : Prop) : Prop := match B with
  | none => q
  | some b => (h.1.length = b.1 ∧ m_sz h.1 = b.2) ∧ q
def m_call (B : Option (Nat × Nat)) (mc ms : Nat) (h : mH) (q : Prop) : Prop := match B, mc, ms with
  | none, 0, 0 => q
  | none, _, _ => False
  | some b, _, _ => (h.1.length + mc ≤ b.1 ∧ m_sz h.1 + ms ≤ b.2) ∧ q
def m_psh (st : List Value) (v : Option Value) (k : List Value → Prop) : Prop := match v with
  | none => k st
  | some x => k (x :: st)
/-- a call: [its number, how many values it takes, the cells and the slots that it makes] -/
def m_fit : List Value → Nat → Bool
  | [], _ => true
  | .long _ :: t, n + 2 => m_fit t n
  | .long _ :: _, _ => false
  | .double _ :: t, n + 2 => m_fit t n
  | .double _ :: _, _ => false
  | _ :: t, n + 1 => m_fit t n
  | _ :: _, 0 => false
def m_inv (B : Option (Nat × Nat)) (call : mC) (an : List Nat) (r : List mI) (ls : mL) (st : List Value) (h : mH) (X : List mI → mL → List Value → mH → Prop) : Prop := match an with
  | [y, n, mc, ms] => m_popn st n [] (fun as s => match m_fit s 8 with
    | true => m_call B mc ms h (call y as h (fun v h' => m_psh s v (fun s' => X r ls s' h')))
    | false => False)
  | _ => False
def m_stp (P : List mI) (B : Option (Nat × Nat)) (call : mC) (Q : Option Value → mH → Prop) (X : List mI → mL → List Value → mH → Prop) (c : List mI) (ls : mL) (st : List Value) (h : mH) : Prop := match c with
  | [] => False
  | e :: r => match e.2.2.2.1 with
    | .invokestatic _ => m_inv B call e.2.2.2.2.2.1 r ls st h X
    | .invokevirtual _ => m_inv B call e.2.2.2.2.2.1 r ls st h X
    | .invokespecial _ => m_inv B call e.2.2.2.2.2.1 r ls st h X
    | .ireturn => (match st, e.2.2.2.2.2.1 with
        | [.int x], [] => m_end B h (Q (some (.int x)) h)
        | [.int x], _ => (x = 0 ∨ x = 1) ∧ m_end B h (Q (some (.int x)) h)
        | _, _ => False)
    | .lreturn => (match st with | [.long x] => m_end B h (Q (some (.long x)) h) | _ => False)
    | .return_ => (match st with | [] => m_end B h (Q none h) | _ => False)
    | _ => (match m_act B e ls st h with
      | some (none, q) => m_alls P r X q
      | some (some p, q) => p ∧ m_alls P r X q
      | none => False)
theorem m_alls_mono {P r : List mI} {X Y : List mI → mL → List Value → mH → Prop} (hXY : ∀ c ls st h, X c ls st h → Y c ls st h) : ∀ q : List (Option Prop × mN), m_alls P r X q → m_alls P r Y q
  | [], h => h
  | [(none, (none, ls, st, g))], h => hXY _ _ _ _ h
  | [(none, (some t, ls, st, g))], h => hXY _ _ _ _ h
  | [(some c, (none, ls, st, g))], h => fun x => hXY _ _ _ _ (h x)
  | [(some c, (some t, ls, st, g))], h => fun x => hXY _ _ _ _ (h x)
  | (some c, (none, ls, st, g)) :: a :: q, h => ⟨fun x => hXY _ _ _ _ (h.1 x), m_alls_mono hXY (a :: q) h.2⟩
  | (some c, (some t, ls, st, g)) :: a :: q, h => ⟨fun x => hXY _ _ _ _ (h.1 x), m_alls_mono hXY (a :: q) h.2⟩
  | (none, (none, ls, st, g)) :: a :: q, h => ⟨hXY _ _ _ _ h.1, m_alls_mono hXY (a :: q) h.2⟩
  | (none, (some t, ls, st, g)) :: a :: q, h => ⟨hXY _ _ _ _ h.1, m_alls_mono hXY (a :: q) h.2⟩
def m_mono (call : mC) : Prop := ∀ y as h (R S : Option Value → mH → Prop), (∀ v g, R v g → S v g) → call y as h R → call y as h S
theorem m_popn_mono {F G : List Value → List Value → Prop} (hFG : ∀ a b, F a b → G a b) : ∀ (n : Nat) (st acc : List Value), m_popn st n acc F → m_popn st n acc G
  | 0, st, acc, h => by
    cases st <;> exact hFG _ _ h
  | n + 1, [], acc, h => h.elim
  | n + 1, v :: st, acc, h => m_popn_mono hFG n st (v :: acc) h
theorem m_end_mono {B : Option (Nat × Nat)} {h : mH} {p q : Prop} (hpq : p → q) (H : m_end B h p) : m_end B h q := by
  cases B with
  | none => exact hpq H
  | some b => exact ⟨H.1, hpq H.2⟩
theorem m_call_mono {B : Option (Nat × Nat)} {mc ms : Nat} {h : mH} {p q : Prop} (hpq : p → q) (H : m_call B mc ms h p) : m_call B mc ms h q := by
  cases B with
  | none =>
    cases mc with
    | zero => cases ms with
      | zero => exact hpq H
      | succ _ => exact H.elim
    | succ _ => exact H.elim
  | some b => exact ⟨H.1, hpq H.2⟩
theorem m_psh_mono {st : List Value} {v : Option Value} {F G : List Value → Prop} (hFG : ∀ a, F a → G a) (H : m_psh st v F) : m_psh st v G := by
  cases v with
  | none => exact hFG _ H
  | some x => exact hFG _ H
theorem m_inv_mono {B : Option (Nat × Nat)} {call : mC} (hc : m_mono call) {an : List Nat} {r : List mI} {ls : mL} {st : List Value} {h : mH} {X Y : List mI → mL → List Value → mH → Prop} (hXY : ∀ c ls st h, X c ls st h → Y c ls st h) (H : m_inv B call an r ls st h X) : m_inv B call an r ls st h Y := by
  match an, H with
  | [y, n, mc, ms], H =>
    refine m_popn_mono (fun as s => ?_) _ _ _ H
    cases m_fit s 8 with
    | true => exact m_call_mono (hc _ _ _ _ _ (fun v g => m_psh_mono (fun s' => hXY _ _ _ _)))
    | false => exact id
  | [], H => exact H.elim
  | [_], H => exact H.elim
  | [_, _], H => exact H.elim
  | [_, _, _], H => exact H.elim
  | _ :: _ :: _ :: _ :: _ :: _, H => exact H.elim
set_option maxHeartbeats 4000000 in
theorem m_stp_mono {P : List mI} {B : Option (Nat × Nat)} {call : mC} (hc : m_mono call) {Q Q' : Option Value → mH → Prop} (hQ : ∀ v g, Q v g → Q' v g) {X Y : List mI → mL → List Value → mH → Prop} (hXY : ∀ c ls st h, X c ls st h → Y c ls st h) {c : List mI} {ls : mL} {st : List Value} {h : mH} (H : m_stp P B call Q X c ls st h) : m_stp P B call Q' Y c ls st h := by
  cases c with
  | nil => exact H
  | cons e r =>
    unfold m_stp at H ⊢
    dsimp only at H ⊢
    split at H
    · exact m_inv_mono hc hXY H
    · exact m_inv_mono hc hXY H
    · exact m_inv_mono hc hXY H
    · split at H
      · exact m_end_mono (hQ _ _) H
      · exact ⟨H.1, m_end_mono (hQ _ _) H.2⟩
      · exact H.elim
    · split at H
      · exact m_end_mono (hQ _ _) H
      · exact H.elim
    · split at H
      · exact m_end_mono (hQ _ _) H
      · exact H.elim
    · split at H
      · exact m_alls_mono hXY _ H
      · exact ⟨H.1, m_alls_mono hXY _ H.2⟩
      · exact H.elim
/-- total correctness of a body from a point on: the least that is closed under steps -/
def WPe (P : List mI) (B : Option (Nat × Nat)) (call : mC) (Q : Option Value → mH → Prop) (c : List mI) (ls : mL) (st : List Value) (h : mH) : Prop :=
  ∀ X : List mI → mL → List Value → mH → Prop, (∀ c ls st h, m_stp P B call Q X c ls st h → X c ls st h) → X c ls st h
theorem WPe.step {P : List mI} {B : Option (Nat × Nat)} {call : mC} (hc : m_mono call) {Q : Option Value → mH → Prop} {c : List mI} {ls : mL} {st : List Value} {h : mH} (H : m_stp P B call Q (WPe P B call Q) c ls st h) : WPe P B call Q c ls st h :=
  fun X hX => hX _ _ _ _ (m_stp_mono hc (fun _ _ q => q) (fun _ _ _ _ w => w X hX) H)
theorem WPe.mono {P : List mI} {B : Option (Nat × Nat)} {call : mC} (hc : m_mono call) {Q Q' : Option Value → mH → Prop} (hQ : ∀ v g, Q v g → Q' v g) {c : List mI} {ls : mL} {st : List Value} {h : mH} (H : WPe P B call Q c ls st h) : WPe P B call Q' c ls st h :=
  H (WPe P B call Q') (fun _ _ _ _ w => WPe.step hc (m_stp_mono hc hQ (fun _ _ _ _ z => z) w))
def m_nxt (K : Nat → mL → List Value → mH → Prop) (S : List mI → mL → List Value → mH → Prop) (c : List mI) (ls : mL) (st : List Value) (h : mH) : Prop := match c with
  | (true, i, _) :: _ => K i ls st h
  | _ => S c ls st h
/-- symbolic execution up to the next stops -/
def m_sym (P : List mI) (B : Option (Nat × Nat)) (call : mC) (Q : Option Value → mH → Prop) (K : Nat → mL → List Value → mH → Prop) : Nat → List mI → mL → List Value → mH → Prop
  | 0, _, _, _, _ => False
  | n + 1, c, ls, st, h => m_stp P B call Q (fun c ls st h => m_nxt K (m_sym P B call Q K n) c ls st h) c ls st h
/-- the instructions' indices are their places -/
def m_ixd (P : List mI) : Prop := ∀ (i : Nat) (e : mI), P[i]? = some e → e.2.1 = i
def m_suf (P c : List mI) : Prop := ∃ j, c = m_drop P j
theorem m_suf.tail {P r : List mI} {e : mI} (h : m_suf P (e :: r)) : m_suf P r := by
  obtain ⟨j, hj⟩ := h
  exact ⟨j + 1, (m_drop_cons hj.symm).2⟩
theorem m_alls_suf {P r : List mI} (hr : m_suf P r) {X : List mI → mL → List Value → mH → Prop} : ∀ q : List (Option Prop × mN), m_alls P r X q → m_alls P r (fun c ls st h => m_suf P c ∧ X c ls st h) q
  | [], h => h
  | [(none, (none, ls, st, g))], h => ⟨hr, h⟩
  | [(none, (some t, ls, st, g))], h => ⟨⟨t, rfl⟩, h⟩
  | [(some c, (none, ls, st, g))], h => fun x => ⟨hr, h x⟩
  | [(some c, (some t, ls, st, g))], h => fun x => ⟨⟨t, rfl⟩, h x⟩
  | (some c, (none, ls, st, g)) :: a :: q, h => ⟨fun x => ⟨hr, h.1 x⟩, m_alls_suf hr (a :: q) h.2⟩
  | (some c, (some t, ls, st, g)) :: a :: q, h => ⟨fun x => ⟨⟨t, rfl⟩, h.1 x⟩, m_alls_suf hr (a :: q) h.2⟩
  | (none, (none, ls, st, g)) :: a :: q, h => ⟨⟨hr, h.1⟩, m_alls_suf hr (a :: q) h.2⟩
  | (none, (some t, ls, st, g)) :: a :: q, h => ⟨⟨⟨t, rfl⟩, h.1⟩, m_alls_suf hr (a :: q) h.2⟩
theorem m_inv_suf {B : Option (Nat × Nat)} {call : mC} (hc : m_mono call) {an : List Nat} {P r : List mI} (hr : m_suf P r) {ls : mL} {st : List Value} {h : mH} {X : List mI → mL → List Value → mH → Prop} (H : m_inv B call an r ls st h X) : m_inv B call an r ls st h (fun c ls st h => m_suf P c ∧ X c ls st h) := by
  match an, H with
  | [y, n, mc, ms], H =>
    refine m_popn_mono (fun as s => ?_) _ _ _ H
    cases m_fit s 8 with
    | true => exact m_call_mono (hc _ _ _ _ _ (fun v g => m_psh_mono (fun s' q => ⟨hr, q⟩)))
    | false => exact id
  | [], H => exact H.elim
  | [_], H => exact H.elim
  | [_, _], H => exact H.elim
  | [_, _, _], H => exact H.elim
  | _ :: _ :: _ :: _ :: _ :: _, H => exact H.elim
set_option maxHeartbeats 4000000 in
theorem m_stp_suf {P : List mI} {B : Option (Nat × Nat)} {call : mC} (hc : m_mono call) {Q : Option Value → mH → Prop} {X : List mI → mL → List Value → mH → Prop} {c : List mI} (hs : m_suf P c) {ls : mL} {st : List Value} {h : mH} (H : m_stp P B call Q X c ls st h) : m_stp P B call Q (fun c ls st h => m_suf P c ∧ X c ls st h) c ls st h := by
  cases c with
  | nil => exact H
  | cons e r =>
    have hr := hs.tail
    unfold m_stp at H ⊢
    dsimp only at H ⊢
    split at H
    · exact m_inv_suf hc hr H
    · exact m_inv_suf hc hr H
    · exact m_inv_suf hc hr H
    · exact H
    · exact H
    · exact H
    · split at H
      · exact m_alls_suf hr _ H
      · exact ⟨H.1, m_alls_suf hr _ H.2⟩
      · exact H.elim
theorem m_sym_ok {P : List mI} {B : Option (Nat × Nat)} {call : mC} (hc : m_mono call) (hP : m_ixd P) {Q : Option Value → mH → Prop} : ∀ (n : Nat) (c : List mI) (ls : mL) (st : List Value) (h : mH), m_suf P c → m_sym P B call Q (fun i ls st h => WPe P B call Q (m_drop P i) ls st h) n c ls st h → WPe P B call Q c ls st h
  | 0, _, _, _, _, _, H => H.elim
  | n + 1, c, ls, st, h, hs, H => by
    refine WPe.step hc (m_stp_mono hc (fun _ _ q => q) ?_ (m_stp_suf hc hs H))
    intro c ls st h ⟨hs, H⟩
    match c, hs, H with
    | [], hs, H => exact m_sym_ok hc hP n _ _ _ _ hs H
    | (true, i, r0) :: r, hs, H =>
      obtain ⟨j, hj⟩ := hs
      have h1 := (m_drop_cons hj.symm).1
      have h2 : i = j := hP j _ h1
      subst h2
      rw [hj]
      exact H
    | (false, i, r0) :: r, hs, H => exact m_sym_ok hc hP n _ _ _ _ hs H
/-! methods -/
/-- a method: its name, its bytes, its locals, what it returns, its class's number, is it an <init>, the class of its receiver, the cells and slots that it makes, its instructions -/
abbrev mM : Type := MethodName × ByteArray × Nat × Option FieldType × Nat × Bool × Option Nat × (Nat × Nat) × List mI
def m_init : Nat → List Value → mL
  | 0, _ => []
  | n + 1, [] => none :: m_init n []
  | 1, .long x :: _ => [some (.long x)]
  | n + 2, .long x :: t => some (.long x) :: none :: m_init n t
  | n + 1, .double _ :: _ => none :: m_init n []
  | n + 1, v :: t => some v :: m_init n t
def m_bud (M : mM) (h : mH) : Option (Nat × Nat) := match M.2.2.2.2.2.2.2.1 with
  | (0, 0) => none
  | (mc, ms) => some (h.1.length + mc, m_sz h.1 + ms)
def m_ent (M : mM) (as : List Value) (h : mH) (q : Prop) : Prop := match m_fit as M.2.2.1 with
  | true => (match M.2.2.2.2.2.2.1 with
    | none => q
    | some ci => (match as with
      | .ref k :: _ => (match m_nth h.1 k with
        | some (t, _, _) => (match Nat.beq t ci with
          | true => q
          | false => False)
        | none => False)
      | _ => False))
  | false => False
def m_cpy (f : Nat → Nat → Int32) (a b sp dp n : Nat) : Nat → Nat → Int32 := fun k i => if k = b then (if dp ≤ i ∧ i < dp + n then f a (sp + (i - dp)) else f k i) else f k i
/-- the place of a letter in "pvdr" -/
def m_let (x : Int32) : Int32 := if x = 112 then 0 else if x = 118 then 1 else if x = 100 then 2 else if x = 114 then 3 else -1
def m_prim (y : Nat) (as : List Value) (h : mH) (R : Option Value → mH → Prop) : Prop := match y, as with
  | 0, [.ref _] => R none h
  | 1, [.ref a, .int sp, .ref b, .int dp, .int n] => (match m_nth h.1 a, m_nth h.1 b with
    | some (t, na, _), some (100, nb, _) => (match (Nat.beq t 100 || Nat.beq t 200) with
      | true => (¬ sp < 0 ∧ ¬ dp < 0 ∧ ¬ n < 0 ∧ sp.toNatClampNeg + n.toNatClampNeg ≤ na ∧ dp.toNatClampNeg + n.toNatClampNeg ≤ nb) ∧ R none (h.1, m_cpy h.2.1 a b sp.toNatClampNeg dp.toNatClampNeg n.toNatClampNeg, h.2.2)
      | false => False)
    | _, _ => False)
  | 3, [.int x, .int y] => R (some (.int (if x < y then y else x))) h
  | 4, [.int x, .int y] => R (some (.int (if y < x then y else x))) h
  | _, _ => False
/-- String.indexOf over the literal -/
def m_ixc (d : Nat) (as : List Value) (h : mH) (R : Option Value → mH → Prop) : Prop := match as with
  | [.ref 4, .int x] => 4 ≤ d ∧ R (some (.int (m_let x))) h
  | _ => False
theorem m_ixc_spec {d : Nat} {as : List Value} {h : mH} {R : Option Value → mH → Prop} (H : m_ixc d as h R) : ∃ x : Int32, as = [.ref 4, .int x] ∧ 4 ≤ d ∧ R (some (.int (m_let x))) h := by
  unfold m_ixc at H
  split at H
  · rename_i x
    exact ⟨x, rfl, H⟩
  · exact H.elim
theorem m_ixc_mono {d : Nat} {as : List Value} {h : mH} {R S : Option Value → mH → Prop} (hRS : ∀ v g, R v g → S v g) (H : m_ixc d as h R) : m_ixc d as h S := by
  obtain ⟨x, rfl, h1, h2⟩ := m_ixc_spec H
  exact ⟨h1, hRS _ _ h2⟩
def Run (tab : List mM) : Nat → mC
  | 0, _, _, _, _ => False
  | d + 1, y, as, h, R => (match y with
    | k + 6 => (match m_nth tab k with
      | some M => m_ent M as h (WPe M.2.2.2.2.2.2.2.2 (m_bud M h) (Run tab d) R M.2.2.2.2.2.2.2.2 (m_init M.2.2.1 as) [] h)
      | none => False)
    | 2 => m_ixc d as h R
    | k => m_prim k as h R)
theorem m_ent_mono {M : mM} {as : List Value} {h : mH} {p q : Prop} (hpq : p → q) (H : m_ent M as h p) : m_ent M as h q := by
  unfold m_ent at H ⊢
  split at H
  · split at H
    · exact hpq H
    · split at H
      · split at H
        · split at H
          · exact hpq H
          · exact H.elim
        · exact H.elim
      · exact H.elim
  · exact H.elim
theorem m_prim_mono {y : Nat} {as : List Value} {h : mH} {R S : Option Value → mH → Prop} (hRS : ∀ v g, R v g → S v g) (H : m_prim y as h R) : m_prim y as h S := by
  unfold m_prim at H ⊢
  split at H
  · exact hRS _ _ H
  · split at H
    · split at H
      · exact ⟨H.1, hRS _ _ H.2⟩
      · exact H.elim
    · exact H.elim
  · exact hRS _ _ H
  · exact hRS _ _ H
  · exact H.elim
theorem Run_mono (tab : List mM) : ∀ d, m_mono (Run tab d)
  | 0 => fun _ _ _ _ _ _ H => H.elim
  | d + 1 => by
    intro y as h R S hRS H
    have ih := Run_mono tab d
    unfold Run at H ⊢
    split at H
    · split at H
      · exact m_ent_mono (WPe.mono ih hRS) H
      · exact H.elim
    · exact m_ixc_mono hRS H
    · exact m_prim_mono hRS H
/-! ===== THE LITERAL, and String.indexOf over it ===== -/
theorem declares_of {A : Array Value} {U : State} {x : MethodName} {b : ByteArray} {n : Nat} {r : Option FieldType} (h1 : (Cond.code x b n r).before A U = true) (h2 : (Cond.instanceMethod x).before A U = true) : (Cond.declares x).before A U = true := by
  obtain ⟨m, meth, q1, q2, q3, q4⟩ := Cond.instanceMethod_spec h2
  obtain ⟨meth', c, e1, -, -, -, -, -, -, e2⟩ := Cond.code_spec q1 h1
  cases q2.symm.trans e1
  simp [Cond.before, Cond.holds, Cond.value, q1, q2, q3, e2]
def lit_b (j : Nat) : Int32 := match j with
  | 0 => 112
  | 1 => 118
  | 2 => 100
  | 3 => 114
  | _ => 0
/-- a field of the object at a -/
def m_Fd (n d : String) (v : Value) (cell : Cell) (U : State) : Prop := ∃ (cf : ClassId) (k : Class) (i : Nat) (f : Field), U.fieldFound? "java/lang/String" n d = some (cf, k, i, f) ∧ f.isStatic = false ∧ U.vm.assignable cell.cls cf = true ∧ cell.slots[f.slot]? = some v
theorem m_Fd.moved {n d : String} {v : Value} {cell : Cell} {u U : State} (hvm : u.vm.Alike U.vm) (h : m_Fd n d v cell u) : m_Fd n d v cell U := by
  obtain ⟨cf, k, i, f, h1, h2, h3, h4⟩ := h
  obtain ⟨k', hi', he⟩ := State.fieldFound?_setVm hvm h1
  exact ⟨cf, k', i, f, hi', h2, by rw [hvm.assignable]; exact h3, h4⟩
/-- the string at a, its bytes at d, as the tables of U have them -/
def m_Sd (cell arr : Cell) (d : Nat) (U : State) : Prop :=
  cell.vm ≠ .unknown ∧ cell.vm.isStatics = false ∧ U.vm.findClass "java/lang/String" = some cell.cls ∧ (∃ k, U.vm.classes[cell.cls]? = some k ∧ (k.kind = .ordinary → cell.slots.size = k.instanceTypes.size)) ∧ m_Fd "value" "[B" (.ref d) cell U ∧ m_Fd "coder" "B" (.int 0) cell U ∧
  U.isArrayOf arr .byte ∧ arr.vm ≠ .unknown ∧ arr.slots.size = 4 ∧ ∀ j, j < 4 → arr.slots[j]? = some (.int (lit_b j))
theorem m_Sd.moved {cell arr : Cell} {d : Nat} {u U : State} (hvm : u.vm.Alike U.vm) (h : m_Sd cell arr d u) : m_Sd cell arr d U := by
  obtain ⟨h1, h2, h3, ⟨k, h4, h5⟩, h6, h7, h8, h9⟩ := h
  obtain ⟨k', hk', he⟩ := hvm.2.2 _ _ h4
  refine ⟨h1, h2, by rw [hvm.findClass]; exact h3, ⟨k', hk', by rw [he]; exact h5⟩, h6.moved hvm, h7.moved hvm, State.isArrayOf_alike hvm h8, h9⟩
def m_Lt (a : Nat) (A : Nat → Prop) (U : State) (H : Heap) : Prop :=
  vk_R "LifeList$Rules" 91 "pvdr" a U ∧ (∃ (d : Nat) (cell arr : Cell), H[a]? = some cell ∧ H[d]? = some arr ∧ ¬ A a ∧ ¬ A d ∧ m_Sd cell arr d U) ∧ va_Z "java/lang/String" "COMPACT_STRINGS" "Z" (.int 1) A U H
theorem m_Lt.same {a : Nat} {A : Nat → Prop} {u U : State} {H : Heap} (hv : U.vm = u.vm) (h : m_Lt a A u H) : m_Lt a A U H := by
  obtain ⟨h1, ⟨d, cell, arr, q1, q2, q3, q4, q5⟩, h3⟩ := h
  have hal : u.vm.Alike U.vm := by rw [hv]; exact Vm.Alike.refl _
  exact ⟨h1.same hv, ⟨d, cell, arr, q1, q2, q3, q4, q5.moved hal⟩, va_Z.moved hal h3⟩
theorem m_Lt.there {a : Nat} {A : Nat → Prop} {s U : State} {H H1 : Heap} (hW : s.WarmedH U.vm) (hq : ∀ a : Nat, a < H.size → ¬ A a → H1[a]? = H[a]?) (h : m_Lt a A s H) : m_Lt a A U H1 := by
  obtain ⟨h1, ⟨d, cell, arr, q1, q2, q3, q4, q5⟩, h3⟩ := h
  refine ⟨h1.warm hW, ⟨d, cell, arr, ?_, ?_, q3, q4, q5.moved hW.alike⟩, (va_Z.moved hW.alike h3).kept hq⟩
  · rw [hq a (Array.getElem?_eq_some_iff.mp q1).1 q3]
    exact q1
  · rw [hq d (Array.getElem?_eq_some_iff.mp q2).1 q4]
    exact q2
theorem m_Lt.recv {a : Nat} {A : Nat → Prop} {U : State} {H : Heap} (h : m_Lt a A U H) : ∃ cell : Cell, H[a]? = some cell ∧ cell.vm.isStatics = false ∧ U.vm.findClass "java/lang/String" = some cell.cls := by
  obtain ⟨-, ⟨d, cell, arr, q1, q2, q3, q4, q5⟩, -⟩ := h
  exact ⟨cell, q1, q5.2.1, q5.2.2.1⟩
theorem lit_let (arr : Cell) (h4 : arr.slots.size = 4) (hb : ∀ j, j < 4 → arr.slots[j]? = some (.int (lit_b j))) (x : Int32) : Jvm.Free.SL1IndexOf.Idx.answer arr x 0 arr.slots.size.toInt32 = m_let x := by
  have hi : ∀ j, j < 4 → Jvm.Lib.StringLatin1.equals.intAt arr j = lit_b j := by
    intro j hj
    unfold Jvm.Lib.StringLatin1.equals.intAt
    rw [hb j hj]
  have e1 : Jvm.Free.SL1IndexOf.Idx.lo 0 = 0 := rfl
  have e2 : Jvm.Free.SL1IndexOf.Idx.hi arr arr.slots.size.toInt32 = 4 := by
    unfold Jvm.Free.SL1IndexOf.Idx.hi
    rw [h4]
    rfl
  unfold Jvm.Free.SL1IndexOf.Idx.answer
  rw [e1, e2, if_pos (show (0 : Int32) < 4 by decide)]
  have e3 : ((4 : Int32).toNatClampNeg - (0 : Int32).toNatClampNeg) = 4 := rfl
  have e4 : (0 : Int32).toNatClampNeg = 0 := rfl
  rw [e3, e4]
  simp only [Jvm.Free.SL1IndexOf.Chr.firstIdx, hi 0 (by decide), hi 1 (by decide), hi 2 (by decide), hi 3 (by decide), lit_b]
  unfold Jvm.Free.SL1IndexOf.Can.can m_let
  by_cases hx : 0 ≤ x ∧ x ≤ 255
  · rw [if_pos hx, if_neg (by decide)]
    obtain ⟨j, hj, rfl⟩ := nI_of2 (x := x) (M := 255) (n := 255) rfl (by rw [Int32.lt_iff_toInt_lt]; have := Int32.le_iff_toInt_le.mp hx.1; omega) hx.2
    have key : ∀ j, j ≤ 255 → (if (112 : Int32) = (nI j).toInt8.toInt32 then Int32.ofNat 0 else if (118 : Int32) = (nI j).toInt8.toInt32 then Int32.ofNat (0 + 1) else if (100 : Int32) = (nI j).toInt8.toInt32 then Int32.ofNat (0 + 1 + 1) else if (114 : Int32) = (nI j).toInt8.toInt32 then Int32.ofNat (0 + 1 + 1 + 1) else -1) = if nI j = 112 then 0 else if nI j = 118 then 1 else if nI j = 100 then 2 else if nI j = 114 then 3 else -1 := by decide +kernel
    exact key j hj
  · rw [if_neg hx, if_pos rfl]
    have n1 : ¬ x = 112 := fun h => hx (by rw [h]; decide)
    have n2 : ¬ x = 118 := fun h => hx (by rw [h]; decide)
    have n3 : ¬ x = 100 := fun h => hx (by rw [h]; decide)
    have n4 : ¬ x = 114 := fun h => hx (by rw [h]; decide)
    rw [if_neg n1, if_neg n2, if_neg n3, if_neg n4]
theorem len_of {args : Array Value} {s : State} {t : Term} {n : Nat} (hn : n < 2 ^ 31) (h : (Term.length t).eval args s none [] s = some (.int (nI n))) : ∃ a cell, t.eval args s none [] s = some (.ref a) ∧ s.arrayAt? a = some cell ∧ cell.slots.size = n := by
  simp only [Term.eval, Option.bind_eq_bind] at h
  cases ht : t.eval args s none [] s with
  | none => simp [ht] at h
  | some x =>
    cases x <;> simp [ht] at h
    case ref a =>
      obtain ⟨cell, hcell, h⟩ := Option.bind_eq_some_iff.mp h
      by_cases hq : cell.slots.size < 2147483648
      · rw [if_pos hq] at h
        have h9 : nI cell.slots.size = nI n := Value.int.inj (Option.some.inj h)
        exact ⟨a, cell, rfl, hcell, (nI_eq hq hn).mp h9⟩
      · rw [if_neg hq] at h
        cases h
theorem fd_of {args : Array Value} {s : State} {t : Term} {a : Nat} {cell : Cell} {n d : String} {v : Value} (ht : t.eval args s none [] s = some (.ref a)) (hc : s.heap[a]? = some cell) (hv : (Term.field t "java/lang/String" n d).eval args s none [] s = some v) : m_Fd n d v cell s ∧ cell.vm ≠ .unknown := by
  cases hfo : s.fieldFound? "java/lang/String" n d with
  | none =>
    rw [va_fe ht] at hv
    simp [State.fieldOf?, State.fieldNamed?, hfo] at hv
  | some x =>
    obtain ⟨cf, k, fi, f⟩ := x
    obtain ⟨g1, cell', g2, g3, g4, g5, g6⟩ := Term.field_spec hfo ht hv
    cases hc.symm.trans g2
    exact ⟨⟨cf, k, fi, f, hfo, g1, g5, g6⟩, g3⟩
theorem start_lit {args : Array Value} {s : State} {A : Nat → Prop} (hA : ∀ a : Nat, a < s.heap.size → ¬ A a) (hsr : (Cond.stringRef "LifeList$Rules" 91 "pvdr").before args s = true)
    (hex : (Cond.exactly (.string "LifeList$Rules" 91) "java/lang/String").before args s = true)
    (hco : (Cond.eq (.field (.string "LifeList$Rules" 91) "java/lang/String" "coder" "B") (.int 0)).before args s = true)
    (har : (Cond.arrayOf (.field (.string "LifeList$Rules" 91) "java/lang/String" "value" "[B") .byte).before args s = true)
    (hle : (Cond.eq (.length (.field (.string "LifeList$Rules" 91) "java/lang/String" "value" "[B")) (.int 4)).before args s = true)
    (hel : ∀ j : Nat, j < 4 → (Cond.eq (.elem (.field (.string "LifeList$Rules" 91) "java/lang/String" "value" "[B") (.int (nI j))) (.int (lit_b j))).before args s = true)
    (hls : (Cond.laysStatic "java/lang/String" "COMPACT_STRINGS" "Z").before args s = true) (hini : (Cond.initialized "java/lang/String").before args s = true)
    (hcs : (Cond.eq (.static "java/lang/String" "COMPACT_STRINGS" "Z") (.int 1)).before args s = true) : ∃ a, a < s.heap.size ∧ m_Lt a A s s.heap := by
  obtain ⟨a, c, cell, k, q1, q2, q3, q4, q5, rfl, q7⟩ := Cond.exactly_spec hex
  obtain ⟨d, arr, r1, r2, r3⟩ := len_of (n := 4) (by decide) (va_eqt hle)
  obtain ⟨r4, r5, -, -⟩ := State.arrayAt?_spec r2
  obtain ⟨f1, f2⟩ := fd_of q1 q3 r1
  obtain ⟨f3, -⟩ := fd_of q1 q3 (va_eqt hco)
  obtain ⟨r6, -⟩ := Cond.arrayOf_spec har r1 r4
  have hq : a < s.heap.size := (Array.getElem?_eq_some_iff.mp q3).1
  have hd : d < s.heap.size := (Array.getElem?_eq_some_iff.mp r4).1
  refine ⟨a, hq, vk_R.of hsr q1, ⟨d, cell, arr, q3, r4, hA a hq, hA d hd, f2, q5, q2, ⟨k, q4, q7⟩, f1, f3, r6, r5, r3, fun j hj => ?_⟩, va_Zof hls hini (va_eqt hcs) hA⟩
  obtain ⟨a', i, arr', h1, h2, h3, h4, h5⟩ := Term.elem_spec (va_eqt (hel j hj))
  cases r1.symm.trans h1
  cases r2.symm.trans h3
  have hi : i = nI j := by
    have e : (Term.int (nI j)).eval args s none [] s = some (.int (nI j)) := rfl
    cases h2.symm.trans e
    rfl
  subst hi
  rw [nI_clamp (by omega)] at h5
  exact h5
/-! ===== HOW A SMALL HEAP STANDS FOR A HEAP ===== -/
/-- what is fixed in a run: the classes' numbers and slots, the array classes by tag, where the new cells begin, where the five old cells are -/
abbrev mG : Type := va_G × (Nat → ClassId) × Nat × (Nat → Nat)
def g_ad (g : mG) (k : Nat) : Nat := if k < 5 then g.2.2.2 k else g.2.2.1 + (k - 5)
def g_v (g : mG) (v : Value) : Value := match v with
  | .ref k => .ref (g_ad g k)
  | w => w
def g_r (g : mG) (x : Option Nat) : Option Nat := x.map (g_ad g)
/-- a field's kind: 0 int, 3 boolean, 1 long, 2 a reference -/
def m_kindOf : FieldType → Nat
  | .int => 0
  | .boolean => 3
  | .long => 1
  | .object _ => 2
  | .array _ => 2
  | _ => 9
def m_tyOf (ci : Nat) : Nat → FieldType := match ci with
  | 0 => tyX0 | 1 => tyX1 | 2 => tyX2 | 3 => tyX3 | 4 => tyX4 | 5 => tyX5 | 6 => tyX6 | 7 => tyX7 | 8 => tyX8 | 9 => tyX9 | 10 => tyX10 | _ => tyX11
def m_T (ci : Nat) : u_T := match ci with
  | 0 => TX0 | 1 => TX1 | 2 => TX2 | 3 => TX3 | 4 => TX4 | 5 => TX5 | 6 => TX6 | 7 => TX7 | 8 => TX8 | 9 => TX9 | 10 => TX10 | _ => TX11
def m_nf (ci : Nat) : Nat := match ci with
  | 0 => 10 | 1 => 8 | 2 => 6 | 3 => 9 | 4 => 14 | 5 => 7 | 6 => 6 | 7 => 3 | 8 => 14 | 9 => 14 | 10 => 9 | _ => 59
/-- the classes' names: those whose objects there are, then the law's, then the JDK's -/
def m_cn (o : Nat) : String := match o with
  | 0 => RX0 | 1 => RX1 | 2 => RX2 | 3 => RX3 | 4 => RX4 | 5 => RX5 | 6 => RX6 | 7 => RX7 | 8 => RX8 | 9 => RX9 | 10 => RX10 | 11 => RX11 | 12 => RL | 13 => RJ6 | 14 => RJ13 | 15 => RJ7 | _ => RJ9
def m_kd (ci j : Nat) : Nat := m_kindOf (m_tyOf ci j)
theorem m_cls_at : ∀ ci, ci < 12 → vwCl[ci]? = some (m_cn ci, m_T ci, m_nf ci) := by
  intro ci h
  match ci, h with
  | 0, _ => rfl | 1, _ => rfl | 2, _ => rfl | 3, _ => rfl | 4, _ => rfl | 5, _ => rfl | 6, _ => rfl | 7, _ => rfl | 8, _ => rfl | 9, _ => rfl | 10, _ => rfl | 11, _ => rfl
  | n + 12, h => exact absurd h (by omega)
theorem m_cls_ty : ∀ ci, ci < 12 → ∀ k, k < m_nf ci → parseFieldDescriptor (m_T ci k).2.2.1 = some (m_tyOf ci k) := by
  intro ci h
  match ci, h with
  | 0, _ => exact tyX0_ok | 1, _ => exact tyX1_ok | 2, _ => exact tyX2_ok | 3, _ => exact tyX3_ok | 4, _ => exact tyX4_ok | 5, _ => exact tyX5_ok | 6, _ => exact tyX6_ok | 7, _ => exact tyX7_ok | 8, _ => exact tyX8_ok | 9, _ => exact tyX9_ok | 10, _ => exact tyX10_ok | 11, _ => exact tyX11_ok
  | n + 12, h => exact absurd h (by omega)
theorem m_cls_nm : ∀ ci, ci < 12 → ∀ a, a < m_nf ci → ∀ b, b < m_nf ci → a ≠ b → (m_T ci a).2.1 ≠ (m_T ci b).2.1 := by
  intro ci h
  match ci, h with
  | 0, _ => exact nmX0 | 1, _ => exact nmX1 | 2, _ => exact nmX2 | 3, _ => exact nmX3 | 4, _ => exact nmX4 | 5, _ => exact nmX5 | 6, _ => exact nmX6 | 7, _ => exact nmX7 | 8, _ => exact nmX8 | 9, _ => exact nmX9 | 10, _ => exact nmX10 | 11, _ => exact nmX11
  | n + 12, h => exact absurd h (by omega)
def g_f (g : mG) (h : mH) (k ci : Nat) (r : List (Option Nat)) (j : Nat) : Value := match m_kd ci j with
  | 1 => .long (h.2.2 k j)
  | 2 => va_rf (g_r g (r.getD j none))
  | _ => .int (h.2.1 k j)
def g_c (g : mG) (h : mH) (k : Nat) (c : mS) : (Nat → Int32) ⊕ (Nat → Int64) ⊕ (Nat → UInt32) ⊕ (Nat → UInt64) ⊕ (Nat → Option Nat) :=
  if c.1 = 102 then .inr (.inl (h.2.2 k)) else if c.1 = 104 ∨ c.1 = 105 then .inr (.inr (.inr (.inr (fun i => g_r g (c.2.2.getD i none))))) else .inl (h.2.1 k)
def g_e (g : mG) (h : mH) (k : Nat) (c : mS) : va_E := if c.1 < 100 then .inr (c.1, (List.range c.2.1).map (g_f g h k c.1 c.2.2)) else .inl (g.2.1 c.1, c.2.1, g_c g h k c)
def g_W (g : mG) (h : mH) : va_W := (List.range (h.1.length - 5)).map (fun i => (g.2.2.1 + i, g_e g h (i + 5) (h.1.getD (i + 5) (0, 0, []))))
def g_tys (g : mG) : List (ClassId × FieldType) := [(g.2.1 100, .int), (g.2.1 101, .boolean), (g.2.1 102, .long), (g.2.1 103, .char), (g.2.1 104, .array .int), (g.2.1 105, .array .long)]
def g_A (g : mG) : Nat → Prop := fun q => g.2.2.1 ≤ q
/-- an old int array: what it holds at its first n places, and that its length reads as n -/
def m_X (b n : Nat) (f : Nat → Int32) (U : State) (H : Heap) : Prop := ∃ scr : Cell, H[b]? = some scr ∧ U.isArrayOf scr .int ∧ scr.vm ≠ .unknown ∧ (n ≤ scr.slots.size ∧ scr.slots.size.toInt32 = Int32.ofNat n) ∧ ∀ j : Nat, j < n → scr.slots[j]? = some (.int (f j))
theorem m_X.kept {b n : Nat} {f : Nat → Int32} {U : State} {H H1 : Heap} (h : m_X b n f U H) (hq : H1[b]? = H[b]?) : m_X b n f U H1 := by
  obtain ⟨scr, h1, h2⟩ := h
  exact ⟨scr, by rw [hq]; exact h1, h2⟩
theorem m_X.moved {b n : Nat} {f : Nat → Int32} {u U : State} {H : Heap} (hvm : u.vm.Alike U.vm) (h : m_X b n f u H) : m_X b n f U H := by
  obtain ⟨scr, h1, h2, h3⟩ := h
  exact ⟨scr, h1, State.isArrayOf_alike hvm h2, h3⟩
/-- the old cells: five, apart from the new ones by their tags; the int arrays among them hold what the small heap says -/
def g_O (g : mG) (U : State) (h : mH) (H : Heap) : Prop :=
  5 ≤ h.1.length ∧ (∀ (k : Nat) (c : mS), h.1[k]? = some c → (k < 5 → 200 ≤ c.1) ∧ (5 ≤ k → c.1 < 200) ∧ (c.1 < 100 → c.1 < 12 ∧ c.2.1 = m_nf c.1 ∧ c.2.2.length = c.2.1)) ∧ (∀ k, k < 5 → g.2.2.2 k < g.2.2.1) ∧
  ∀ (k n : Nat) (r : List (Option Nat)), h.1[k]? = some (200, n, r) → m_X (g.2.2.2 k) n (h.2.1 k) U H
def g_R (g : mG) (U : State) (h : mH) (H : Heap) : Prop := va_P g.1 vwCl (g_W g h) H ∧ g_O g U h H
theorem g_W_length (g : mG) (h : mH) : (g_W g h).length = h.1.length - 5 := by simp [g_W]
theorem g_W_get {g : mG} {h : mH} {k : Nat} {c : mS} (hk : 5 ≤ k) (hc : h.1[k]? = some c) : (g_W g h)[k - 5]? = some (g.2.2.1 + (k - 5), g_e g h k c) := by
  have hl : k < h.1.length := (List.getElem?_eq_some_iff.mp hc).1
  have e : k - 5 + 5 = k := by omega
  unfold g_W
  rw [List.getElem?_map, List.getElem?_range (by omega)]
  simp only [Option.map_some, e, List.getD_eq_getElem?_getD, hc, Option.getD_some]
theorem g_W_inv {g : mG} {h : mH} {i : Nat} {q : Nat × va_E} (hq : (g_W g h)[i]? = some q) : ∃ c, h.1[i + 5]? = some c ∧ q = (g.2.2.1 + i, g_e g h (i + 5) c) := by
  have hl : i < (g_W g h).length := (List.getElem?_eq_some_iff.mp hq).1
  rw [g_W_length] at hl
  have hlt : i + 5 < h.1.length := by omega
  have hc : h.1[i + 5]? = some h.1[i + 5] := List.getElem?_eq_getElem hlt
  refine ⟨_, hc, ?_⟩
  have := g_W_get (g := g) (k := i + 5) (by omega) hc
  rw [show i + 5 - 5 = i by omega] at this
  exact Option.some.inj (hq.symm.trans this)
theorem g_D {g : mG} {h : mH} : va_D (g_A g) (g_W g h) := by
  refine ⟨fun i j p q hi hj hpq => ?_, fun k q hk => ?_⟩
  · obtain ⟨c, -, rfl⟩ := g_W_inv hi
    obtain ⟨c', -, rfl⟩ := g_W_inv hj
    dsimp only at hpq
    omega
  · obtain ⟨c, -, rfl⟩ := g_W_inv hk
    exact Nat.le_add_right _ _
/-- an entry depends on its own row alone -/
theorem g_e_congr {g : mG} {h h' : mH} {k : Nat} (c : mS) (h1 : h'.2.1 k = h.2.1 k) (h2 : h'.2.2 k = h.2.2 k) : g_e g h' k c = g_e g h k c := by
  have hf : g_f g h' k c.1 c.2.2 = g_f g h k c.1 c.2.2 := by
    funext j
    unfold g_f
    rw [h1, h2]
  have hc : g_c g h' k c = g_c g h k c := by
    unfold g_c
    rw [h1, h2]
  unfold g_e
  rw [hf, hc]
/-- one cell changes -/
theorem g_W_set {g : mG} {h h' : mH} {k : Nat} {c : mS} (hk : 5 ≤ k) (hl : k < h.1.length) (hs : h'.1 = h.1.set k c) (h1 : ∀ a, a ≠ k → h'.2.1 a = h.2.1 a) (h2 : ∀ a, a ≠ k → h'.2.2 a = h.2.2 a) :
    g_W g h' = (g_W g h).set (k - 5) (g.2.2.1 + (k - 5), g_e g h' k c) := by
  apply List.ext_getElem?
  intro i
  rw [List.getElem?_set]
  by_cases e : k - 5 = i
  · subst e
    rw [if_pos rfl, g_W_length, if_pos (by omega)]
    exact g_W_get hk (by rw [hs]; simp [hl])
  · rw [if_neg e]
    cases hq : (g_W g h)[i]? with
    | none =>
      rw [List.getElem?_eq_none_iff, g_W_length] at hq
      rw [List.getElem?_eq_none_iff, g_W_length, hs, List.length_set]
      exact hq
    | some q =>
      obtain ⟨c', hc', rfl⟩ := g_W_inv hq
      have hne : i + 5 ≠ k := by omega
      have := g_W_get (g := g) (h := h') (k := i + 5) (c := c') (by omega) (by rw [hs, List.getElem?_set_ne (by omega)]; exact hc')
      rw [show i + 5 - 5 = i by omega] at this
      rw [this, g_e_congr c' (h1 _ hne) (h2 _ hne)]
theorem g_W_put {g : mG} {h h' : mH} {k : Nat} {c : mS} (hk : 5 ≤ k) (hc : h.1[k]? = some c) (hs : h'.1 = h.1) (h1 : ∀ a, a ≠ k → h'.2.1 a = h.2.1 a) (h2 : ∀ a, a ≠ k → h'.2.2 a = h.2.2 a) :
    g_W g h' = (g_W g h).set (k - 5) (g.2.2.1 + (k - 5), g_e g h' k c) := by
  have hl : k < h.1.length := (List.getElem?_eq_some_iff.mp hc).1
  refine g_W_set hk hl ?_ h1 h2
  rw [hs]
  apply List.ext_getElem?
  intro i
  rw [List.getElem?_set]
  by_cases e : k = i
  · subst e
    rw [if_pos rfl, if_pos hl]
    exact hc
  · rw [if_neg e]
/-- cells come behind -/
theorem g_W_app {g : mG} {h h' : mH} {cs : List mS} (h5 : 5 ≤ h.1.length) (hs : h'.1 = h.1 ++ cs) (h1 : ∀ a, a < h.1.length → h'.2.1 a = h.2.1 a) (h2 : ∀ a, a < h.1.length → h'.2.2 a = h.2.2 a) :
    g_W g h' = g_W g h ++ (List.range cs.length).map (fun i => (g.2.2.1 + (h.1.length - 5) + i, g_e g h' (h.1.length + i) (cs.getD i (0, 0, [])))) := by
  apply List.ext_getElem?
  intro i
  by_cases hi : i < h.1.length - 5
  · rw [List.getElem?_append_left (by rw [g_W_length]; exact hi)]
    cases hq : (g_W g h)[i]? with
    | none =>
      rw [List.getElem?_eq_none_iff, g_W_length] at hq
      omega
    | some q =>
      obtain ⟨c', hc', rfl⟩ := g_W_inv hq
      have := g_W_get (g := g) (h := h') (k := i + 5) (c := c') (by omega) (by rw [hs, List.getElem?_append_left (by omega)]; exact hc')
      rw [show i + 5 - 5 = i by omega] at this
      rw [this, g_e_congr c' (h1 _ (by omega)) (h2 _ (by omega))]
  · rw [List.getElem?_append_right (by rw [g_W_length]; omega), g_W_length, List.getElem?_map]
    by_cases hj : i - (h.1.length - 5) < cs.length
    · rw [List.getElem?_range hj]
      have hc' : h'.1[i + 5]? = some (cs.getD (i - (h.1.length - 5)) (0, 0, [])) := by
        rw [hs, List.getElem?_append_right (by omega), show i + 5 - h.1.length = i - (h.1.length - 5) by omega, List.getD_eq_getElem?_getD, List.getElem?_eq_getElem hj]
        rfl
      have := g_W_get (g := g) (h := h') (k := i + 5) (by omega) hc'
      rw [show i + 5 - 5 = i by omega] at this
      rw [this]
      simp only [Option.map_some, Option.some.injEq]
      rw [show g.2.2.1 + (h.1.length - 5) + (i - (h.1.length - 5)) = g.2.2.1 + i by omega, show h.1.length + (i - (h.1.length - 5)) = i + 5 by omega]
    · have hn : (List.range cs.length)[i - (h.1.length - 5)]? = none := List.getElem?_eq_none (by rw [List.length_range]; omega)
      rw [hn]
      simp only [Option.map_none]
      rw [List.getElem?_eq_none_iff, g_W_length, hs, List.length_append]
      omega
theorem g_ad_ge {g : mG} {k : Nat} (h : 5 ≤ k) : g_ad g k = g.2.2.1 + (k - 5) := if_neg (by omega)
theorem g_ad_lt {g : mG} {k : Nat} (h : k < 5) : g_ad g k = g.2.2.2 k := if_pos h
/-! the locals -/
def g_L (g : mG) (la : Array Slot) (nL : Nat) (ls : mL) : Prop := ls.length = nL ∧ la.size = nL ∧ lv_wf la ∧ ∀ (j : Nat) (w : Value), ls[j]? = some (some w) → la[j]? = some (.val (g_v g w))
def m_as (g : mG) : Nat → mL → List (Nat × Value)
  | _, [] => []
  | i, some v :: t => (i, g_v g v) :: m_as g (i + 1) t
  | i, none :: t => m_as g (i + 1) t
theorem m_as_mem (g : mG) : ∀ (ls : mL) (i : Nat) (q : Nat × Value), q ∈ m_as g i ls ↔ ∃ (j : Nat) (w : Value), ls[j]? = some (some w) ∧ q = (i + j, g_v g w)
  | [], i, q => by simp [m_as]
  | some v :: t, i, q => by
    have ih := m_as_mem g t (i + 1) q
    simp only [m_as, List.mem_cons, ih]
    constructor
    · rintro (rfl | ⟨j, w, h1, rfl⟩)
      · exact ⟨0, v, rfl, rfl⟩
      · exact ⟨j + 1, w, by simpa using h1, by rw [show i + 1 + j = i + (j + 1) by omega]⟩
    · rintro ⟨j, w, h1, rfl⟩
      cases j with
      | zero =>
        simp at h1
        subst h1
        exact Or.inl rfl
      | succ j => exact Or.inr ⟨j, w, by simpa using h1, by rw [show i + 1 + j = i + (j + 1) by omega]⟩
  | none :: t, i, q => by
    have ih := m_as_mem g t (i + 1) q
    simp only [m_as, ih]
    constructor
    · rintro ⟨j, w, h1, rfl⟩
      exact ⟨j + 1, w, by simpa using h1, by rw [show i + 1 + j = i + (j + 1) by omega]⟩
    · rintro ⟨j, w, h1, rfl⟩
      cases j with
      | zero => simp at h1
      | succ j => exact ⟨j, w, by simpa using h1, by rw [show i + 1 + j = i + (j + 1) by omega]⟩
theorem g_L.has {g : mG} {la : Array Slot} {nL : Nat} {ls : mL} (h : g_L g la nL ls) : lv_has la nL (m_as g 0 ls) := by
  refine ⟨h.2.1, h.2.2.1, fun q hq => ?_⟩
  obtain ⟨j, w, h1, rfl⟩ := (m_as_mem g ls 0 q).mp hq
  rw [show 0 + j = j by omega]
  exact h.2.2.2 j w h1
theorem g_v_cat (g : mG) (v : Value) : (g_v g v).category = v.category := by cases v <;> rfl
theorem m_ld_spec : ∀ (ls : mL) (i : Nat) (k : Value → mA) (r : Option Prop × List (Option Prop × mN)), m_ld ls i k = some r → ∃ v, ls[i]? = some (some v) ∧ k v = some r
  | [], i, k, r, h => by cases i <;> simp [m_ld] at h
  | some v :: t, 0, k, r, h => ⟨v, rfl, h⟩
  | none :: t, 0, k, r, h => by simp [m_ld] at h
  | x :: t, n + 1, k, r, h => by
    have h' : m_ld t n k = some r := by
      cases x <;> exact h
    obtain ⟨v, h1, h2⟩ := m_ld_spec t n k r h'
    exact ⟨v, by simpa using h1, h2⟩
theorem m_k2_spec {x : Option Value} {k : Option Value → mA} {r : Option Prop × List (Option Prop × mN)} (h : m_k2 x k = some r) : ∃ x', k x' = some r ∧ ∀ w, x' = some w → x = some w ∧ w.category = 1 := by
  unfold m_k2 at h
  split at h
  · exact ⟨none, h, fun w hw => by cases hw⟩
  · exact ⟨none, h, fun w hw => by cases hw⟩
  · rename_i v h1 h2
    refine ⟨some v, h, fun w hw => ?_⟩
    cases hw
    refine ⟨rfl, ?_⟩
    cases v with
    | long a => exact absurd rfl (h1 a)
    | double a => exact absurd rfl (h2 a)
    | _ => rfl
  · exact ⟨none, h, fun w hw => by cases hw⟩
theorem m_st_spec : ∀ (ls : mL) (i : Nat) (v : Value) (k : mL → mA) (r : Option Prop × List (Option Prop × mN)), m_st ls i v k = some r →
    ∃ ls', k ls' = some r ∧ ls'.length = ls.length ∧ i < ls.length ∧ ∀ (j : Nat) (w : Value), ls'[j]? = some (some w) → (j = i ∧ w = v) ∨ (j ≠ i ∧ ls[j]? = some (some w) ∧ ¬ (j + 1 = i ∧ w.category = 2))
  | [], i, v, k, r, h => by
    rcases i with _ | _ | i <;> simp [m_st] at h
  | x :: t, 0, v, k, r, h => by
    refine ⟨some v :: t, ?_, rfl, Nat.zero_lt_succ _, fun j w hw => ?_⟩
    · cases t <;> exact h
    · cases j with
      | zero => simp at hw; exact Or.inl ⟨rfl, hw.symm⟩
      | succ j => exact Or.inr ⟨by omega, by simpa using hw, by omega⟩
  | [x], 1, v, k, r, h => by simp [m_st] at h
  | x :: y :: t, 1, v, k, r, h => by
    have h' : m_k2 x (fun x' => k (x' :: some v :: t)) = some r := h
    obtain ⟨x', h1, h2⟩ := m_k2_spec h'
    refine ⟨x' :: some v :: t, h1, rfl, by simp, fun j w hw => ?_⟩
    rcases j with _ | _ | j
    · have hw' : x' = some w := by simpa using hw
      obtain ⟨e1, e2⟩ := h2 w hw'
      refine Or.inr ⟨by omega, by rw [e1]; rfl, fun hh => by omega⟩
    · simp at hw
      exact Or.inl ⟨rfl, hw.symm⟩
    · exact Or.inr ⟨by omega, by simpa using hw, by omega⟩
  | x :: t, n + 2, v, k, r, h => by
    have h' : m_st t (n + 1) v (fun t' => k (x :: t')) = some r := by
      cases t with
      | nil => simp [m_st] at h
      | cons y t => exact h
    obtain ⟨t', h1, h2, h3, h4⟩ := m_st_spec t (n + 1) v (fun t' => k (x :: t')) r h'
    refine ⟨x :: t', h1, by simp [h2], by simp; omega, fun j w hw => ?_⟩
    cases j with
    | zero => exact Or.inr ⟨by omega, by simpa using hw, by omega⟩
    | succ j =>
      rcases h4 j w (by simpa using hw) with ⟨a, b⟩ | ⟨a, b, d⟩
      · exact Or.inl ⟨by omega, b⟩
      · exact Or.inr ⟨by omega, by simpa using b, fun q => d ⟨by omega, q.2⟩⟩
theorem m_st2_spec : ∀ (ls : mL) (i : Nat) (v : Value) (k : mL → mA) (r : Option Prop × List (Option Prop × mN)), m_st2 ls i v k = some r →
    ∃ ls', k ls' = some r ∧ ls'.length = ls.length ∧ i + 1 < ls.length ∧ ∀ (j : Nat) (w : Value), ls'[j]? = some (some w) → (j = i ∧ w = v) ∨ (j ≠ i ∧ j ≠ i + 1 ∧ ls[j]? = some (some w) ∧ ¬ (j + 1 = i ∧ w.category = 2))
  | [], i, v, k, r, h => by
    rcases i with _ | _ | i <;> simp [m_st2] at h
  | [x], 0, v, k, r, h => by simp [m_st2] at h
  | x :: y :: t, 0, v, k, r, h => by
    refine ⟨some v :: none :: t, ?_, rfl, by simp, fun j w hw => ?_⟩
    · cases t <;> exact h
    · rcases j with _ | _ | j
      · simp at hw; exact Or.inl ⟨rfl, hw.symm⟩
      · simp at hw
      · exact Or.inr ⟨by omega, by omega, by simpa using hw, by omega⟩
  | [x], 1, v, k, r, h => by simp [m_st2] at h
  | [x, y], 1, v, k, r, h => by simp [m_st2] at h
  | x :: y :: z :: t, 1, v, k, r, h => by
    have h' : m_k2 x (fun x' => k (x' :: some v :: none :: t)) = some r := h
    obtain ⟨x', h1, h2⟩ := m_k2_spec h'
    refine ⟨x' :: some v :: none :: t, h1, rfl, by simp, fun j w hw => ?_⟩
    rcases j with _ | _ | _ | j
    · have hw' : x' = some w := by simpa using hw
      obtain ⟨e1, e2⟩ := h2 w hw'
      refine Or.inr ⟨by omega, by omega, by rw [e1]; rfl, fun hh => by omega⟩
    · simp at hw
      exact Or.inl ⟨rfl, hw.symm⟩
    · simp at hw
    · exact Or.inr ⟨by omega, by omega, by simpa using hw, by omega⟩
  | x :: t, n + 2, v, k, r, h => by
    have h' : m_st2 t (n + 1) v (fun t' => k (x :: t')) = some r := by
      rcases t with _ | ⟨y, _ | ⟨z, t⟩⟩
      · simp [m_st2] at h
      · exact h
      · exact h
    obtain ⟨t', h1, h2, h3, h4⟩ := m_st2_spec t (n + 1) v (fun t' => k (x :: t')) r h'
    refine ⟨x :: t', h1, by simp [h2], by simp; omega, fun j w hw => ?_⟩
    cases j with
    | zero => exact Or.inr ⟨by omega, by omega, by simpa using hw, by omega⟩
    | succ j =>
      rcases h4 j w (by simpa using hw) with ⟨a, b⟩ | ⟨a, a', b, d⟩
      · exact Or.inl ⟨by omega, b⟩
      · exact Or.inr ⟨by omega, by omega, by simpa using b, fun q => d ⟨by omega, q.2⟩⟩
theorem g_L.st {g : mG} {la la' : Array Slot} {nL i : Nat} {ls ls' : mL} {v : Value} (h : g_L g la nL ls) (hlen : ls'.length = ls.length) (hs : ∀ (j : Nat) (w : Value), ls'[j]? = some (some w) → (j = i ∧ w = v) ∨ (j ≠ i ∧ ls[j]? = some (some w) ∧ ¬ (j + 1 = i ∧ w.category = 2)))
    (h' : lv_has la' nL ((i, g_v g v) :: (m_as g 0 ls).filter (fun q => !(q.1 == i) && !(q.1 + 1 == i && q.2.category == 2)))) : g_L g la' nL ls' := by
  refine ⟨hlen.trans h.1, h'.1, h'.2.1, fun j w hw => ?_⟩
  rcases hs j w hw with ⟨rfl, rfl⟩ | ⟨h1, h2, h3⟩
  · exact h'.2.2 (j, g_v g w) List.mem_cons_self
  · refine h'.2.2 (j, g_v g w) (List.mem_cons_of_mem _ (List.mem_filter.mpr ⟨(m_as_mem g ls 0 _).mpr ⟨j, w, h2, by rw [show 0 + j = j by omega]⟩, ?_⟩))
    rw [g_v_cat]
    have h3' : j + 1 = i → ¬ w.category = 2 := fun a b => h3 ⟨a, b⟩
    by_cases e : j + 1 = i
    · simp [h1, h3' e]
    · simp [h1, e]
theorem g_L.st2 {g : mG} {la la' : Array Slot} {nL i : Nat} {ls ls' : mL} {v : Value} (h : g_L g la nL ls) (hlen : ls'.length = ls.length) (hs : ∀ (j : Nat) (w : Value), ls'[j]? = some (some w) → (j = i ∧ w = v) ∨ (j ≠ i ∧ j ≠ i + 1 ∧ ls[j]? = some (some w) ∧ ¬ (j + 1 = i ∧ w.category = 2)))
    (h' : lv_has la' nL ((i, g_v g v) :: (m_as g 0 ls).filter (fun q => !(q.1 == i) && (!(q.1 == i + 1) && !(q.1 + 1 == i && q.2.category == 2))))) : g_L g la' nL ls' := by
  refine ⟨hlen.trans h.1, h'.1, h'.2.1, fun j w hw => ?_⟩
  rcases hs j w hw with ⟨rfl, rfl⟩ | ⟨h1, h1', h2, h3⟩
  · exact h'.2.2 (j, g_v g w) List.mem_cons_self
  · refine h'.2.2 (j, g_v g w) (List.mem_cons_of_mem _ (List.mem_filter.mpr ⟨(m_as_mem g ls 0 _).mpr ⟨j, w, h2, by rw [show 0 + j = j by omega]⟩, ?_⟩))
    rw [g_v_cat]
    have h3' : j + 1 = i → ¬ w.category = 2 := fun a b => h3 ⟨a, b⟩
    by_cases e : j + 1 = i
    · simp [h1, h1', h3' e]
    · simp [h1, h1', e]
/-! ===== WHAT A RESOLVED INSTRUCTION MUST KEEP TO, by program ===== -/
def m_tgt (P : List mI) (pc : Nat) (off : Int) (t : Nat) : Bool := match m_nth P t with
  | some e => decide ((pc : Int) + off = (e.2.2.1 : Int))
  | none => false
def m_sub (P : List mI) (pc : Nat) : List Int → List Nat → Bool
  | [], [] => true
  | o :: os, t :: ts => m_tgt P pc o t && m_sub P pc os ts
  | _, _ => false
/-- FL: field links (owner, pool index, class, field); SL: statics (owner, pool index, place); CL: class links (owner, pool index, class); KI, KL: constants -/
def m_chk1 (FL : List (Nat × Nat × Nat × Nat)) (SL CL : List (Nat × Nat × Nat)) (KI : List (Nat × Nat × Int32)) (KL : List (Nat × Nat × Int64)) (ii : Bool) (o : Nat) (P : List mI) (e : mI) : Bool := match e with
  | (_, _, pc, ins, len, an, kv, kl) => match ins with
    | .iconst n => len == 1 && decide (Int32.ofInt n = kv)
    | .bipush n => len == 2 && decide ((Int8.ofInt n).toInt32 = kv)
    | .sipush n => len == 3 && decide ((Int16.ofInt n).toInt32 = kv)
    | .ldc i => len == 2 && (match an with | [] => KI.any (fun q => q.1 == o && q.2.1 == i && decide (q.2.2 = kv)) | [a] => a == 4 && o == 6 && i == 91 | _ => true)
    | .ldc_w i => len == 3 && KI.any (fun q => q.1 == o && q.2.1 == i && decide (q.2.2 = kv))
    | .lconst n => len == 1 && decide (Int64.ofNat n.val = kl)
    | .ldc2_w i => len == 3 && KL.any (fun q => q.1 == o && q.2.1 == i && decide (q.2.2 = kl))
    | .iload _ | .lload _ | .aload _ | .istore _ | .lstore _ | .astore _ => len == 2
    | .iload_n _ | .lload_n _ | .aload_n _ | .istore_n _ | .lstore_n _ | .astore_n _ => len == 1
    | .iinc _ n => len == 3 && decide (Int32.ofInt n = kv)
    | .iadd | .isub | .imul | .iand | .ior | .ixor | .ishl | .ishr | .iushr | .idiv | .ineg | .ladd | .lsub | .lmul | .land | .lor | .ldiv | .lneg | .lshl | .lshr | .lushr | .lcmp | .i2l | .l2i | .i2s | .i2c | .dup | .dup_x1 | .dup2 | .pop | .arraylength | .iaload | .baload | .caload | .laload | .aaload | .iastore | .bastore | .castore | .lastore => len == 1
    | .goto off => len == 3 && (match an with | [t] => m_tgt P pc off t | _ => false)
    | .ifCond _ off => len == 3 && (match an with | [t] => m_tgt P pc off t | _ => false)
    | .if_icmp _ off => len == 3 && (match an with | [t] => m_tgt P pc off t | _ => false)
    | .tableswitch d lo hi offs => decide (Int32.ofInt lo = kv) && decide (-1000 ≤ lo) && decide (lo ≤ 1000) && decide (offs.size ≤ 1000) && decide (hi + 1 = lo + (offs.size : Int)) && (match an with | t :: ts => m_tgt P pc d t && m_sub P pc offs.toList ts | [] => false)
    | .getstatic i => len == 3 && (match an with | [a] => SL.any (fun q => q.1 == o && q.2.1 == i && q.2.2 == a) | _ => false)
    | .getfield i => len == 3 && (match an with | [f, ci, j, d] => decide (FL[f]? = some (o, i, ci, j)) && decide (ci < 12) && decide (j < m_nf ci) && (m_kd ci j == d || (m_kd ci j == 3 && d == 0)) && decide (d ≤ 2) | _ => false)
    | .putfield i => len == 3 && (match an with | [f, ci, j, d] => decide (FL[f]? = some (o, i, ci, j)) && decide (ci < 12) && decide (j < m_nf ci) && m_kd ci j == d && (!(m_T ci j).2.2.2 || (ii && o == ci && decide ((m_T ci j).1 = m_cn o))) | _ => false)
    | .new i => len == 3 && (match an with | [ci, n] => CL.any (fun q => q.1 == o && q.2.1 == i && q.2.2 == ci) && decide (ci < 12) && m_nf ci == n | _ => false)
    | .newarray ty => len == 2 && m_atag ty != 199
    | .multianewarray i n => len == 4 && n == 2 && (match an with | [to, ti] => CL.any (fun q => q.1 == o && q.2.1 == i && q.2.2 == to) && ((to == 104 && ti == 100) || (to == 105 && ti == 102)) | _ => false)
    | .ireturn | .lreturn | .return_ => len == 1
    | .invokestatic _ | .invokevirtual _ | .invokespecial _ => len == 3
    | _ => false
/-- the instructions of a method, one behind the other, as its bytes have them -/
def m_lay (cc : ByteArray) (chk : mI → Bool) : Nat → Nat → List mI → Bool
  | _, _, [] => true
  | i, pc, e :: t => e.2.1 == i && e.2.2.1 == pc && chk e && decide (decode cc pc = .ok (e.2.2.2.1, e.2.2.2.2.1)) && m_lay cc chk (i + 1) (pc + e.2.2.2.2.1) t
def m_fits (cc : ByteArray) (chk : mI → Bool) (P : List mI) : Prop := ∀ (i : Nat) (e : mI), P[i]? = some e → e.2.1 = i ∧ chk e = true ∧ decode cc e.2.2.1 = .ok (e.2.2.2.1, e.2.2.2.2.1) ∧ ∀ e', P[i + 1]? = some e' → e'.2.2.1 = e.2.2.1 + e.2.2.2.2.1
theorem m_lay_spec {cc : ByteArray} {chk : mI → Bool} : ∀ (P : List mI) (i pc : Nat), m_lay cc chk i pc P = true → ∀ (k : Nat) (e : mI), P[k]? = some e → e.2.1 = i + k ∧ (k = 0 → e.2.2.1 = pc) ∧ chk e = true ∧ decode cc e.2.2.1 = .ok (e.2.2.2.1, e.2.2.2.2.1) ∧ ∀ e', P[k + 1]? = some e' → e'.2.2.1 = e.2.2.1 + e.2.2.2.2.1
  | [], i, pc, _, k, e, he => by simp at he
  | a :: t, i, pc, h, k, e, he => by
    simp only [m_lay, Bool.and_eq_true, beq_iff_eq, decide_eq_true_eq] at h
    obtain ⟨⟨⟨⟨h1, h2⟩, h3⟩, h4⟩, h5⟩ := h
    have ih := m_lay_spec t (i + 1) (pc + a.2.2.2.2.1) h5
    cases k with
    | zero =>
      simp at he
      subst he
      refine ⟨by omega, fun _ => h2, h3, by rw [h2]; exact h4, fun e' he' => ?_⟩
      have := (ih 0 e' (by simpa using he')).2.1 rfl
      rw [this, h2]
    | succ k =>
      obtain ⟨a1, -, a3, a4, a5⟩ := ih k e (by simpa using he)
      exact ⟨by omega, fun q => by omega, a3, a4, fun e' he' => a5 e' (by simpa using he')⟩
theorem m_fits_of {cc : ByteArray} {chk : mI → Bool} {P : List mI} (h : m_lay cc chk 0 0 P = true) : m_fits cc chk P := fun i e he => by
  obtain ⟨a1, -, a3, a4, a5⟩ := m_lay_spec P 0 0 h i e he
  exact ⟨by omega, a3, a4, a5⟩
def dt0 : List (Nat × Jvm.ClassFile.Instr) := [(2, .iconst (-1)), (3, .iconst 0), (4, .iconst 1), (5, .iconst 2), (6, .iconst 3), (7, .iconst 4), (8, .iconst 5), (9, .lconst 0), (10, .lconst 1), (26, .iload_n 0), (27, .iload_n 1), (28, .iload_n 2), (29, .iload_n 3), (30, .lload_n 0), (31, .lload_n 1), (32, .lload_n 2), (33, .lload_n 3), (42, .aload_n 0), (43, .aload_n 1), (44, .aload_n 2), (45, .aload_n 3), (59, .istore_n 0), (60, .istore_n 1), (61, .istore_n 2), (62, .istore_n 3), (63, .lstore_n 0), (64, .lstore_n 1), (65, .lstore_n 2), (66, .lstore_n 3), (75, .astore_n 0), (76, .astore_n 1), (77, .astore_n 2), (78, .astore_n 3), (46, .iaload), (47, .laload), (50, .aaload), (51, .baload), (52, .caload), (79, .iastore), (80, .lastore), (84, .bastore), (85, .castore), (87, .pop), (89, .dup), (90, .dup_x1), (92, .dup2), (96, .iadd), (97, .ladd), (100, .isub), (101, .lsub), (104, .imul), (105, .lmul), (108, .idiv), (109, .ldiv), (116, .ineg), (117, .lneg), (120, .ishl), (121, .lshl), (122, .ishr), (123, .lshr), (124, .iushr), (125, .lushr), (126, .iand), (127, .land), (128, .ior), (129, .lor), (130, .ixor), (133, .i2l), (136, .l2i), (146, .i2c), (147, .i2s), (148, .lcmp), (172, .ireturn), (173, .lreturn), (177, .return_), (190, .arraylength)]
def dt1 : List (Nat × (Nat → Jvm.ClassFile.Instr)) := [(18, fun x => .ldc x), (21, fun x => .iload x), (22, fun x => .lload x), (25, fun x => .aload x), (54, fun x => .istore x), (55, fun x => .lstore x), (58, fun x => .astore x)]
def dt2 : List (Nat × (Nat → Jvm.ClassFile.Instr)) := [(19, fun x => .ldc_w x), (20, fun x => .ldc2_w x), (178, fun x => .getstatic x), (180, fun x => .getfield x), (181, fun x => .putfield x), (182, fun x => .invokevirtual x), (183, fun x => .invokespecial x), (184, fun x => .invokestatic x), (187, fun x => .new x)]
def dt3 : List (Nat × (Int → Jvm.ClassFile.Instr)) := [(17, fun x => .sipush x), (153, fun x => .ifCond .eq x), (154, fun x => .ifCond .ne x), (155, fun x => .ifCond .lt x), (156, fun x => .ifCond .ge x), (157, fun x => .ifCond .gt x), (158, fun x => .ifCond .le x), (159, fun x => .if_icmp .eq x), (160, fun x => .if_icmp .ne x), (161, fun x => .if_icmp .lt x), (162, fun x => .if_icmp .ge x), (163, fun x => .if_icmp .gt x), (164, fun x => .if_icmp .le x), (167, fun x => .goto x)]
theorem dk_ex : ∃ KK : Nat → Nat → Jvm.ClassFile.Decoder Jvm.ClassFile.Instr, (∀ pc, Jvm.ClassFile.Decoder.instr pc = (Jvm.ClassFile.Reader.u1 >>= KK pc)) ∧ (∀ pc, ∀ q ∈ dt0, KK pc q.1 = Pure.pure q.2) ∧ (∀ pc, ∀ q ∈ dt1, KK pc q.1 = (Jvm.ClassFile.Reader.u1 >>= fun x => Pure.pure (q.2 x))) ∧ (∀ pc, ∀ q ∈ dt2, KK pc q.1 = (Jvm.ClassFile.Reader.u2 >>= fun x => Pure.pure (q.2 x))) ∧ (∀ pc, ∀ q ∈ dt3, KK pc q.1 = (Jvm.ClassFile.Reader.s2 >>= fun x => Pure.pure (q.2 x))) ∧ (∀ pc, KK pc 16 = (Jvm.ClassFile.Reader.s1 >>= fun x => Pure.pure (.bipush x))) ∧ (∀ pc, KK pc 132 = (Jvm.ClassFile.Reader.u1 >>= fun x => Jvm.ClassFile.Reader.s1 >>= fun y => Pure.pure (.iinc x y))) ∧ (∀ pc, KK pc 188 = Jvm.ClassFile.Decoder.newarray pc) := by
  refine ⟨_, fun pc => rfl, (by
    intro pc q hq
    simp only [dt0, List.mem_cons, List.not_mem_nil, or_false] at hq
    rcases hq with rfl | rfl | rfl | rfl | rfl | rfl | rfl | rfl | rfl | rfl | rfl | rfl | rfl | rfl | rfl | rfl | rfl | rfl | rfl | rfl | rfl | rfl | rfl | rfl | rfl | rfl | rfl | rfl | rfl | rfl | rfl | rfl | rfl | rfl | rfl | rfl | rfl | rfl | rfl | rfl | rfl | rfl | rfl | rfl | rfl | rfl | rfl | rfl | rfl | rfl | rfl | rfl | rfl | rfl | rfl | rfl | rfl | rfl | rfl | rfl | rfl | rfl | rfl | rfl | rfl | rfl | rfl | rfl | rfl | rfl | rfl | rfl | rfl | rfl | rfl | rfl <;> rfl), (by
    intro pc q hq
    simp only [dt1, List.mem_cons, List.not_mem_nil, or_false] at hq
    rcases hq with rfl | rfl | rfl | rfl | rfl | rfl | rfl <;> rfl), (by
    intro pc q hq
    simp only [dt2, List.mem_cons, List.not_mem_nil, or_false] at hq
    rcases hq with rfl | rfl | rfl | rfl | rfl | rfl | rfl | rfl | rfl <;> rfl), (by
    intro pc q hq
    simp only [dt3, List.mem_cons, List.not_mem_nil, or_false] at hq
    rcases hq with rfl | rfl | rfl | rfl | rfl | rfl | rfl | rfl | rfl | rfl | rfl | rfl | rfl | rfl <;> rfl), fun pc => rfl, fun pc => rfl, fun pc => rfl⟩
theorem dn_ex : ∃ NK : Nat → Nat → Jvm.ClassFile.Decoder Jvm.ClassFile.Instr, (∀ pc, Jvm.ClassFile.Decoder.newarray pc = (Jvm.ClassFile.Reader.u1 >>= NK pc)) ∧ (∀ pc, NK pc 4 = Pure.pure (.newarray .boolean)) ∧ (∀ pc, NK pc 5 = Pure.pure (.newarray .char)) ∧ (∀ pc, NK pc 10 = Pure.pure (.newarray .int)) ∧ (∀ pc, NK pc 11 = Pure.pure (.newarray .long)) := ⟨_, fun pc => rfl, fun pc => rfl, fun pc => rfl, fun pc => rfl, fun pc => rfl⟩
theorem bd_ok {α β : Type} {x : Jvm.ClassFile.Decoder α} {K : α → Jvm.ClassFile.Decoder β} {cc : ByteArray} {p s : Nat} {a : α} (h : x cc p = .ok (a, s)) : (x >>= K) cc p = K a cc s := by
  show Except.bind (x cc p) _ = _
  rw [h]
  rfl
theorem mp_ok {α β : Type} {x : Jvm.ClassFile.Decoder α} {f : α → β} {cc : ByteArray} {p s : Nat} {a : α} (h : x cc p = .ok (a, s)) : (f <$> x) cc p = .ok (f a, s) := by
  show Except.bind (x cc p) _ = _
  rw [h]
  rfl
theorem u1_ok {cc : ByteArray} {p : Nat} (h : p < cc.size) : (Jvm.ClassFile.Reader.u1 : Jvm.ClassFile.Decoder Nat) cc p = .ok ((cc[p]'h).toNat, p + 1) := by
  show (dite (p < cc.size) (fun h => (do set (p + 1); Pure.pure (cc[p]'h).toNat : Jvm.ClassFile.Decoder Nat)) (fun _ => throw _)) cc p = _
  rw [dif_pos h]
  rfl
/-- the bytes from p on -/
def bts (cc : ByteArray) (p : Nat) : List UInt8 := cc.data.toList.drop p
theorem bts_c {cc : ByteArray} {p : Nat} {b : UInt8} {r : List UInt8} (h : bts cc p = b :: r) : ∃ h : p < cc.size, cc[p]'h = b ∧ bts cc (p + 1) = r := by
  unfold bts at h ⊢
  have hl : p < cc.data.toList.length := by
    rcases Nat.lt_or_ge p cc.data.toList.length with q | q
    · exact q
    · rw [List.drop_of_length_le q] at h
      cases h
  rw [List.drop_eq_getElem_cons hl] at h
  injection h with h1 h2
  refine ⟨by simpa using hl, ?_, h2⟩
  rw [← h1]
  rfl
theorem u1_b {cc : ByteArray} {p : Nat} {b : UInt8} {r : List UInt8} (h : bts cc p = b :: r) : (Jvm.ClassFile.Reader.u1 : Jvm.ClassFile.Decoder Nat) cc p = .ok (b.toNat, p + 1) := by
  obtain ⟨h1, h2, _⟩ := bts_c h
  rw [u1_ok h1, h2]
theorem u2_b {cc : ByteArray} {p : Nat} {b b2 : UInt8} {r : List UInt8} (h : bts cc p = b :: b2 :: r) : (Jvm.ClassFile.Reader.u2 : Jvm.ClassFile.Decoder Nat) cc p = .ok (b.toNat * 256 + b2.toNat, p + 2) := by
  obtain ⟨_, _, h2⟩ := bts_c h
  refine (bd_ok (u1_b h)).trans ((bd_ok (u1_b h2)).trans ?_)
  rfl
theorem de_ok {cc : ByteArray} {pc n : Nat} {i : Jvm.ClassFile.Instr} (h : Jvm.ClassFile.Decoder.instr pc cc pc = .ok (i, n)) : decode cc pc = .ok (i, n - pc) := by
  have h2 : (Jvm.ClassFile.Decoder.instr pc).runAt cc pc = .ok (i, n) := h
  unfold Jvm.ClassFile.decode
  rw [h2]
  rfl
def lk {α : Type} : List (Nat × α) → Nat → Option α
  | [], _ => none
  | q :: t, n => bif Nat.beq q.1 n then some q.2 else lk t n
theorem lk_mem {α : Type} : ∀ (l : List (Nat × α)) (n : Nat) (a : α), lk l n = some a → (n, a) ∈ l
  | [], n, a, h => by cases h
  | q :: t, n, a, h => by
    unfold lk at h
    cases hb : Nat.beq q.1 n with
    | true =>
      rw [hb] at h
      cases h
      have := Nat.eq_of_beq_eq_true hb
      subst this
      exact List.mem_cons_self
    | false =>
      rw [hb] at h
      exact List.mem_cons_of_mem _ (lk_mem t n a h)
def ar : Nat → Option Jvm.ClassFile.Instr
  | 4 => some (.newarray .boolean)
  | 5 => some (.newarray .char)
  | 10 => some (.newarray .int)
  | 11 => some (.newarray .long)
  | _ => none
/-- the instruction at the bytes -/
def fd : List UInt8 → Option (Jvm.ClassFile.Instr × Nat)
  | b0 :: r => match lk dt0 b0.toNat with
    | some i => some (i, 1)
    | none => match r with
      | b1 :: r2 => match lk dt1 b0.toNat with
        | some c => some (c b1.toNat, 2)
        | none => bif Nat.beq b0.toNat 16 then some (.bipush (Jvm.ClassFile.Reader.signed 8 b1.toNat), 2) else bif Nat.beq b0.toNat 188 then (match ar b1.toNat with | some i => some (i, 2) | none => none) else match r2 with
          | b2 :: _ => match lk dt2 b0.toNat with
            | some c => some (c (b1.toNat * 256 + b2.toNat), 3)
            | none => match lk dt3 b0.toNat with
              | some c => some (c (Jvm.ClassFile.Reader.signed 16 (b1.toNat * 256 + b2.toNat)), 3)
              | none => bif Nat.beq b0.toNat 132 then some (.iinc b1.toNat (Jvm.ClassFile.Reader.signed 8 b2.toNat), 3) else none
          | [] => none
      | [] => none
  | [] => none
theorem fd_ok {cc : ByteArray} {pc n : Nat} {i : Jvm.ClassFile.Instr} {l : List UInt8} (hl : bts cc pc = l) (h : fd l = some (i, n)) : decode cc pc = .ok (i, n) := by
  obtain ⟨KK, kb, k0, k1, k2, k3, k16, k132, k188⟩ := dk_ex
  obtain ⟨NK, nb, n4, n5, n10, n11⟩ := dn_ex
  have fin : ∀ s, Jvm.ClassFile.Decoder.instr pc cc pc = .ok (i, pc + s) → decode cc pc = .ok (i, s) := fun s hs => by
    have := de_ok hs
    rw [Nat.add_sub_cancel_left] at this
    exact this
  cases l with
  | nil => cases h
  | cons b0 r =>
    have h0 := u1_b hl
    obtain ⟨_, _, hr⟩ := bts_c hl
    have st : Jvm.ClassFile.Decoder.instr pc cc pc = KK pc b0.toNat cc (pc + 1) := by
      rw [kb pc]
      exact bd_ok h0
    unfold fd at h
    dsimp only at h
    cases e0 : lk dt0 b0.toNat with
    | some j =>
      rw [e0] at h
      cases h
      refine fin 1 (st.trans ?_)
      rw [k0 pc _ (lk_mem _ _ _ e0)]
      rfl
    | none =>
      rw [e0] at h
      cases r with
      | nil => cases h
      | cons b1 r2 =>
        have h1 := u1_b hr
        obtain ⟨_, _, hr2⟩ := bts_c hr
        dsimp only at h
        cases e1 : lk dt1 b0.toNat with
        | some c =>
          rw [e1] at h
          cases h
          refine fin 2 (st.trans ?_)
          rw [k1 pc _ (lk_mem _ _ _ e1)]
          exact (bd_ok h1).trans rfl
        | none =>
          rw [e1] at h
          dsimp only at h
          cases q16 : Nat.beq b0.toNat 16 with
          | true =>
            rw [q16] at h
            cases h
            refine fin 2 (st.trans ?_)
            rw [Nat.eq_of_beq_eq_true q16, k16 pc]
            exact (bd_ok (mp_ok h1)).trans rfl
          | false =>
            rw [q16] at h
            dsimp only [cond_false] at h
            cases q188 : Nat.beq b0.toNat 188 with
            | true =>
              rw [q188] at h
              dsimp only [cond_true] at h
              have st2 : Jvm.ClassFile.Decoder.instr pc cc pc = NK pc b1.toNat cc (pc + 2) := by
                rw [st, Nat.eq_of_beq_eq_true q188, k188 pc, nb pc]
                exact bd_ok h1
              have four : b1.toNat = 4 ∨ b1.toNat = 5 ∨ b1.toNat = 10 ∨ b1.toNat = 11 := by
                apply Classical.byContradiction
                intro no
                have e : ar b1.toNat = none := by
                  unfold ar
                  split
                  · exact absurd (Or.inl (by assumption)) no
                  · exact absurd (Or.inr (Or.inl (by assumption))) no
                  · exact absurd (Or.inr (Or.inr (Or.inl (by assumption)))) no
                  · exact absurd (Or.inr (Or.inr (Or.inr (by assumption)))) no
                  · rfl
                rw [e] at h
                cases h
              rcases four with z | z | z | z
              · rw [z] at h st2
                cases h
                refine fin 2 (st2.trans ?_)
                rw [n4 pc]
                rfl
              · rw [z] at h st2
                cases h
                refine fin 2 (st2.trans ?_)
                rw [n5 pc]
                rfl
              · rw [z] at h st2
                cases h
                refine fin 2 (st2.trans ?_)
                rw [n10 pc]
                rfl
              · rw [z] at h st2
                cases h
                refine fin 2 (st2.trans ?_)
                rw [n11 pc]
                rfl
            | false =>
              rw [q188] at h
              dsimp only [cond_false] at h
              cases r2 with
              | nil => cases h
              | cons b2 r3 =>
                have h2 := u2_b hr
                have h2b := u1_b hr2
                dsimp only at h
                cases e2 : lk dt2 b0.toNat with
                | some c =>
                  rw [e2] at h
                  cases h
                  refine fin 3 (st.trans ?_)
                  rw [k2 pc _ (lk_mem _ _ _ e2)]
                  exact (bd_ok h2).trans rfl
                | none =>
                  rw [e2] at h
                  dsimp only at h
                  cases e3 : lk dt3 b0.toNat with
                  | some c =>
                    rw [e3] at h
                    cases h
                    refine fin 3 (st.trans ?_)
                    rw [k3 pc _ (lk_mem _ _ _ e3)]
                    exact (bd_ok (mp_ok h2)).trans rfl
                  | none =>
                    rw [e3] at h
                    dsimp only at h
                    cases q132 : Nat.beq b0.toNat 132 with
                    | true =>
                      rw [q132] at h
                      cases h
                      refine fin 3 (st.trans ?_)
                      rw [Nat.eq_of_beq_eq_true q132, k132 pc]
                      exact (bd_ok h1).trans ((bd_ok (mp_ok h2b)).trans rfl)
                    | false =>
                      rw [q132] at h
                      cases h
/-- the instructions of a method, one behind the other, read from its bytes -/
def m_ly (cc : ByteArray) (chk : mI → Bool) : Nat → Nat → List UInt8 → List mI → Bool
  | _, _, _, [] => true
  | i, pc, l, e :: t => Nat.beq e.2.1 i && (Nat.beq e.2.2.1 pc && (chk e && ((match fd l with | some q => decide (q.1 = e.2.2.2.1) && Nat.beq q.2 e.2.2.2.2.1 | none => decide (decode cc pc = .ok (e.2.2.2.1, e.2.2.2.2.1))) && m_ly cc chk (i + 1) (pc + e.2.2.2.2.1) (l.drop e.2.2.2.2.1) t)))
theorem m_ly_ok {cc : ByteArray} {chk : mI → Bool} : ∀ (P : List mI) (i pc : Nat) (l : List UInt8), bts cc pc = l → m_ly cc chk i pc l P = true → m_lay cc chk i pc P = true
  | [], _, _, _, _, _ => rfl
  | e :: t, i, pc, l, hl, h => by
    simp only [m_ly, Bool.and_eq_true] at h
    obtain ⟨h1, h2, h3, h4, h5⟩ := h
    have hd : decode cc pc = .ok (e.2.2.2.1, e.2.2.2.2.1) := by
      cases hf : fd l with
      | some q =>
        rw [hf] at h4
        simp only [Bool.and_eq_true, decide_eq_true_eq] at h4
        have := fd_ok hl hf
        rw [this, h4.1, Nat.eq_of_beq_eq_true h4.2]
      | none =>
        rw [hf] at h4
        exact of_decide_eq_true h4
    have ih := m_ly_ok t (i + 1) (pc + e.2.2.2.2.1) (l.drop e.2.2.2.2.1) (by rw [← hl]; unfold bts; rw [List.drop_drop]) h5
    simp only [m_lay, Bool.and_eq_true, beq_iff_eq, decide_eq_true_eq]
    exact ⟨⟨⟨⟨Nat.eq_of_beq_eq_true h1, Nat.eq_of_beq_eq_true h2⟩, h3⟩, hd⟩, ih⟩
theorem m_lay_by {cc : ByteArray} {chk : mI → Bool} {i pc : Nat} {P : List mI} (h : m_ly cc chk i pc (bts cc pc) P = true) : m_lay cc chk i pc P = true := m_ly_ok P i pc _ rfl h
/-! ===== WHAT THE SMALL MACHINE DOES IN ONE INSTRUCTION, THE MACHINE DOES ===== -/
/-- the statics that hold old int arrays: class, name, descriptor, place -/
def m_ST : List (String × String × String × Nat) := [("LifeList$Rules", "AT_FIRST", "[I", 1), ("LifeList$Rules", "WITHOUT", "[I", 2), ("LifeList$Rules", "ABOVE", "[I", 3)]
/-- links to private members of nest mates: owner, pool index, method, host -/
def m_NL : List (Nat × Nat × MethodName × String) := [(10, 9, ⟨"LifeList$Works", "<init>", "()V"⟩, "LifeList"), (10, 18, ⟨"LifeList$Owners", "<init>", "()V"⟩, "LifeList"), (10, 32, ⟨"LifeList$Committee", "<init>", "()V"⟩, "LifeList"), (2, 13, ⟨"LifeList$Matching", "<init>", "()V"⟩, "LifeList"), (5, 34, ⟨"LifeList", "isWithin", "(III)Z"⟩, "LifeList"), (2, 85, ⟨"LifeList", "isWithin", "(III)Z"⟩, "LifeList"), (6, 37, ⟨"LifeList", "isWithin", "(III)Z"⟩, "LifeList")]
/-- the words of the tables that hold in every later state too -/
def m_tb : List Cond := lw_tbl.filter goodWord
theorem m_tb_mem {w : Cond} : w ∈ m_tb ↔ w ∈ lw_tbl ∧ goodWord w = true := List.mem_filter
def m_AO (ty : FieldType) (U : State) : Prop := (Cond.arrayOver (.array ty)).before #[] U = true
theorem m_AO.moved {ty : FieldType} {u U : State} (hvm : u.vm.Alike U.vm) (h : m_AO ty u) : m_AO ty U := Jvm.Stand.arrayOver_alikeB hvm h
/-- link tables: of them each row is a word of the tables -/
def m_Lk (FL : List (Nat × Nat × Nat × Nat)) (SL CL : List (Nat × Nat × Nat)) (KI : List (Nat × Nat × Int32)) (KL : List (Nat × Nat × Int64)) : Prop :=
  (∀ ci, ci < 12 → ∀ w ∈ u_ws (m_cn ci) (m_T ci) (m_nf ci), w ∈ m_tb) ∧
  (∀ q ∈ FL, Cond.fieldLink (m_cn q.1) q.2.1 (m_T q.2.2.1 q.2.2.2).1 (m_T q.2.2.1 q.2.2.2).2.1 (m_T q.2.2.1 q.2.2.2).2.2.1 ∈ m_tb) ∧
  (∀ q ∈ SL, ∃ z ∈ m_ST, z.2.2.2 = q.2.2 ∧ q.2.2 < 5 ∧ Cond.fieldLink (m_cn q.1) q.2.1 z.1 z.2.1 z.2.2.1 ∈ m_tb) ∧
  (∀ q ∈ CL, (q.2.2 < 12 → Cond.classLink (m_cn q.1) q.2.1 (m_cn q.2.2) ∈ m_tb) ∧ (q.2.2 = 104 → Cond.classLink (m_cn q.1) q.2.1 "[[I" ∈ m_tb) ∧ (q.2.2 = 105 → Cond.classLink (m_cn q.1) q.2.1 "[[J" ∈ m_tb)) ∧
  (∀ q ∈ KI, Cond.constant (m_cn q.1) q.2.1 q.2.2 ∈ m_tb) ∧ (∀ q ∈ KL, Cond.constantLong (m_cn q.1) q.2.1 q.2.2 ∈ m_tb) ∧
  (∀ ci, ci < 12 → Cond.instantiable (m_cn ci) (m_nf ci) ∈ m_tb ∧ Cond.initialized (m_cn ci) ∈ m_tb) ∧ Cond.arrayClass .int ∈ m_tb ∧ Cond.arrayClass .boolean ∈ m_tb ∧ Cond.arrayClass .long ∈ m_tb ∧ Cond.arrayClass .char ∈ m_tb
/-- the place at which a method stands -/
def g_Cx (g : mG) (p : Program) (s : State) (m : MethodId) (args : Array Value) (meth : Method) (c : Code) (cc : ByteArray) (o : Nat) (ii : Bool) : Prop :=
  p.tables.exec = Jvm.exec ∧ c.code = cc ∧ s.vm.findClass (m_cn o) = some m.cls ∧ (∀ w ∈ m_tb, w.before args s = true) ∧ va_K g.1 vwCl (g_tys g) s ∧ g.2.2.1 ≤ s.heap.size ∧
  (∀ z ∈ m_ST, va_Z z.1 z.2.1 z.2.2.1 (.ref (g.2.2.2 z.2.2.2)) (g_A g) s s.heap) ∧ (ii = true → meth.name = "<init>") ∧ m_AO .int s ∧ m_AO .long s ∧ (∀ q ∈ m_NL, va_Nw (.methodLinkNest (m_cn q.1) q.2.1 q.2.2.1 q.2.2.2) s) ∧ m_Lt (g.2.2.2 4) (g_A g) s s.heap
def g_I (g : mG) (s : State) (nL n0 s0 : Nat) (B : Option (Nat × Nat)) (ls : mL) (h : mH) (H : Heap) (locs : List Loc) (cells slots : Nat) (la : Array Slot) : Prop :=
  g_R g s h H ∧ g_L g la nL ls ∧ va_S (g_A g) s.heap H locs ∧ (h.1.length = n0 + cells ∧ m_sz h.1 = s0 + slots) ∧ (B = none → cells = 0 ∧ slots = 0)
theorem m_arr_some {h : mH} {k tg : Nat} {f : Nat → List (Option Nat) → mA} {r : Option Prop × List (Option Prop × mN)} (H : m_arr h k tg f = some r) : ∃ n rf, h.1[k]? = some (tg, n, rf) ∧ f n rf = some r := by
  unfold m_arr at H
  rw [m_nth_eq] at H
  split at H
  · rename_i t n rf hh
    split at H
    · rename_i hb
      have e : t = tg := Nat.eq_of_beq_eq_true hb
      subst e
      exact ⟨n, rf, hh, H⟩
    · cases H
  · cases H
theorem m_arr2_some {h : mH} {k tg tg2 : Nat} {f : Nat → mA} {r : Option Prop × List (Option Prop × mN)} (H : m_arr2 h k tg tg2 f = some r) : ∃ t n rf, (t = tg ∨ t = tg2) ∧ h.1[k]? = some (t, n, rf) ∧ f n = some r := by
  unfold m_arr2 at H
  rw [m_nth_eq] at H
  split at H
  · rename_i t n rf hh
    split at H
    · rename_i hb
      rw [Bool.or_eq_true] at hb
      rcases hb with hb | hb
      · exact ⟨t, n, rf, Or.inl (Nat.eq_of_beq_eq_true hb), hh, H⟩
      · exact ⟨t, n, rf, Or.inr (Nat.eq_of_beq_eq_true hb), hh, H⟩
    · cases H
  · cases H
theorem m_alen_some {h : mH} {k : Nat} {f : Nat → mA} {r : Option Prop × List (Option Prop × mN)} (H : m_alen h k f = some r) : ∃ t n rf, ((100 ≤ t ∧ t ≤ 105) ∨ t = 200) ∧ h.1[k]? = some (t, n, rf) ∧ f n = some r := by
  unfold m_alen at H
  rw [m_nth_eq] at H
  split at H
  · rename_i t n rf hh
    split at H
    · rename_i hb
      rw [Bool.or_eq_true, Bool.and_eq_true] at hb
      exact ⟨t, n, rf, hb.imp (fun q => ⟨Nat.le_of_ble_eq_true q.1, Nat.le_of_ble_eq_true q.2⟩) Nat.eq_of_beq_eq_true, hh, H⟩
    · cases H
  · cases H
theorem g_new {g : mG} {U : State} {h : mH} {H : Heap} (hO : g_O g U h H) {k : Nat} {c : mS} (hc : h.1[k]? = some c) (ht : c.1 < 200) : 5 ≤ k := by
  rcases Nat.lt_or_ge k 5 with q | q
  · have := (hO.2.1 k c hc).1 q
    omega
  · exact q
theorem g_e_i {g : mG} {h : mH} {k n t : Nat} {r : List (Option Nat)} (ht : t = 100 ∨ t = 101 ∨ t = 103) : g_e g h k (t, n, r) = .inl (g.2.1 t, n, .inl (h.2.1 k)) := by
  rcases ht with rfl | rfl | rfl <;> simp [g_e, g_c]
theorem g_e_l {g : mG} {h : mH} {k n : Nat} {r : List (Option Nat)} : g_e g h k (102, n, r) = .inl (g.2.1 102, n, .inr (.inl (h.2.2 k))) := by
  simp [g_e, g_c]
theorem g_e_q {g : mG} {h : mH} {k n t : Nat} {r : List (Option Nat)} (ht : t = 104 ∨ t = 105) : g_e g h k (t, n, r) = .inl (g.2.1 t, n, .inr (.inr (.inr (.inr (fun i => g_r g (r.getD i none)))))) := by
  rcases ht with rfl | rfl <;> simp [g_e, g_c]
theorem g_e_o {g : mG} {h : mH} {k n t : Nat} {r : List (Option Nat)} (ht : t < 100) : g_e g h k (t, n, r) = .inr (t, (List.range n).map (g_f g h k t r)) := by
  simp [g_e, ht]
/-- the old cells stay as they are while ints of new cells change -/
theorem g_O.put {g : mG} {U : State} {h h' : mH} {H H1 : Heap} (hO : g_O g U h H) (hs : h'.1 = h.1) (hi : ∀ a, a < 5 → h'.2.1 a = h.2.1 a) (hk : ∀ a, a < g.2.2.1 → H1[a]? = H[a]?) : g_O g U h' H1 := by
  obtain ⟨h5, h1, h2, h3⟩ := hO
  refine ⟨by rw [hs]; exact h5, fun k c hc => h1 k c (by rw [← hs]; exact hc), h2, fun k n r hc => ?_⟩
  rw [hs] at hc
  have hk5 : k < 5 := by
    rcases Nat.lt_or_ge k 5 with q | q
    · exact q
    · have := (h1 k _ hc).2.1 q
      simp at this
  rw [hi k hk5]
  exact (h3 k n r hc).kept (hk _ (h2 k hk5))
theorem va_S.low {g : mG} {H0 H : Heap} {locs : List Loc} (h : va_S (g_A g) H0 H locs) (hb : g.2.2.1 ≤ H0.size) {a : Nat} (ha : a < g.2.2.1) : H[a]? = H0[a]? := h.2.1 a (by omega) (by show ¬ g.2.2.1 ≤ a; omega)
theorem m_ui_row {f : Nat → Nat → Int32} {k j : Nat} {v : Int32} {a : Nat} (h : a ≠ k) : m_ui f k j v a = f a := by
  funext i
  simp [m_ui, h]
theorem m_ul_row {f : Nat → Nat → Int64} {k j : Nat} {v : Int64} {a : Nat} (h : a ≠ k) : m_ul f k j v a = f a := by
  funext i
  simp [m_ul, h]
theorem m_ui_upd {f : Nat → Nat → Int32} {k j : Nat} {v : Int32} : m_ui f k j v k = upd (f k) j v := by
  funext i
  simp [m_ui, upd]
theorem m_ul_upd {f : Nat → Nat → Int64} {k j : Nat} {v : Int64} : m_ul f k j v k = vp_updL (f k) j v := by
  funext i
  simp [m_ul, vp_updL]
section Sound
variable {p : Program} {l : Launch} {e : Env} {R : Room} {s : State} {m : MethodId} {args : Array Value} {below : List Frame} {meth : Method} {c : Code} {Q : State → Prop}
variable {g : mG} {cc : ByteArray} {o nL n0 s0 : Nat} {ii : Bool} {B : Option (Nat × Nat)} {P r : List mI}
variable {FL : List (Nat × Nat × Nat × Nat)} {SL CL : List (Nat × Nat × Nat)} {KI : List (Nat × Nat × Int32)} {KL : List (Nat × Nat × Int64)}
/-- from here on, in any heap that the small one stands for, the machine comes to its end -/
def g_K (p : Program) (l : Launch) (e : Env) (R : Room) (s : State) (m : MethodId) (args : Array Value) (below : List Frame) (meth : Method) (c : Code) (Q : State → Prop) (g : mG) (nL n0 s0 : Nat) (B : Option (Nat × Nat)) (pc : Nat) (ls : mL) (st : List Value) (h : mH) : Prop :=
  ∀ (H : Heap) (locs : List Loc) (cells slots : Nat) (la : Array Slot), g_I g s nL n0 s0 B ls h H locs cells slots la → W p l e R s m args below meth c H locs cells slots Q (F0 m pc la (st.map (g_v g)))
theorem k_go {pc pc' : Nat} {ls : mL} {st st' : List Value} {h : mH}
    (row : ∀ (H : Heap) (locs : List Loc) (cells slots : Nat) (la : Array Slot), g_I g s nL n0 s0 B ls h H locs cells slots la → W p l e R s m args below meth c H locs cells slots Q (F0 m pc' la (st'.map (g_v g))) → W p l e R s m args below meth c H locs cells slots Q (F0 m pc la (st.map (g_v g))))
    (k : g_K p l e R s m args below meth c Q g nL n0 s0 B pc' ls st' h) : g_K p l e R s m args below meth c Q g nL n0 s0 B pc ls st h :=
  fun _ _ _ _ _ I => row _ _ _ _ _ I (k _ _ _ _ _ I)
theorem k_st {pc pc' i : Nat} {ls ls' : mL} {st st' : List Value} {h : mH} {v : Value}
    (hlen : ls'.length = ls.length) (hs : ∀ (j : Nat) (w : Value), ls'[j]? = some (some w) → (j = i ∧ w = v) ∨ (j ≠ i ∧ ls[j]? = some (some w) ∧ ¬ (j + 1 = i ∧ w.category = 2)))
    (row : ∀ (H : Heap) (locs : List Loc) (cells slots : Nat) (la : Array Slot), g_I g s nL n0 s0 B ls h H locs cells slots la → (∀ la' : Array Slot, lv_has la' nL ((i, g_v g v) :: (m_as g 0 ls).filter (fun q => !(q.1 == i) && !(q.1 + 1 == i && q.2.category == 2))) → W p l e R s m args below meth c H locs cells slots Q (F0 m pc' la' (st'.map (g_v g)))) → W p l e R s m args below meth c H locs cells slots Q (F0 m pc la (st.map (g_v g))))
    (k : g_K p l e R s m args below meth c Q g nL n0 s0 B pc' ls' st' h) : g_K p l e R s m args below meth c Q g nL n0 s0 B pc ls st h :=
  fun H locs cells slots la I => row _ _ _ _ _ I (fun la' h' => k _ _ _ _ la' ⟨I.1, I.2.1.st hlen hs h', I.2.2⟩)
theorem k_st2 {pc pc' i : Nat} {ls ls' : mL} {st st' : List Value} {h : mH} {v : Value}
    (hlen : ls'.length = ls.length) (hs : ∀ (j : Nat) (w : Value), ls'[j]? = some (some w) → (j = i ∧ w = v) ∨ (j ≠ i ∧ j ≠ i + 1 ∧ ls[j]? = some (some w) ∧ ¬ (j + 1 = i ∧ w.category = 2)))
    (row : ∀ (H : Heap) (locs : List Loc) (cells slots : Nat) (la : Array Slot), g_I g s nL n0 s0 B ls h H locs cells slots la → (∀ la' : Array Slot, lv_has la' nL ((i, g_v g v) :: (m_as g 0 ls).filter (fun q => !(q.1 == i) && (!(q.1 == i + 1) && !(q.1 + 1 == i && q.2.category == 2)))) → W p l e R s m args below meth c H locs cells slots Q (F0 m pc' la' (st'.map (g_v g)))) → W p l e R s m args below meth c H locs cells slots Q (F0 m pc la (st.map (g_v g))))
    (k : g_K p l e R s m args below meth c Q g nL n0 s0 B pc' ls' st' h) : g_K p l e R s m args below meth c Q g nL n0 s0 B pc ls st h :=
  fun H locs cells slots la I => row _ _ _ _ _ I (fun la' h' => k _ _ _ _ la' ⟨I.1, I.2.1.st2 hlen hs h', I.2.2⟩)
theorem m_tgt_spec {pc t : Nat} {off : Int} (h : m_tgt P pc off t = true) : ∃ e', P[t]? = some e' ∧ (pc : Int) + off = (e'.2.2.1 : Int) := by
  unfold m_tgt at h
  rw [m_nth_eq] at h
  split at h
  · rename_i e' he
    exact ⟨e', he, of_decide_eq_true h⟩
  · cases h

set_option maxHeartbeats 4000000 in
theorem ok_iadd (hLk : m_Lk FL SL CL KI KL) (C : g_Cx g p s m args meth c cc o ii) {sp : Bool} {ix pc len : Nat} {an : List Nat} {kv : Int32} {kl : Int64} {ls : mL} {st : List Value} {h : mH} {sd : Option Prop} {q : List (Option Prop × mN)} {X : List mI → mL → List Value → mH → Prop} 
    (hchk : m_chk1 FL SL CL KI KL ii o P (sp, ix, pc, .iadd, len, an, kv, kl) = true) (hd : decode cc pc = .ok (.iadd, len)) (ha : m_act B (sp, ix, pc, .iadd, len, an, kv, kl) ls st h = some (sd, q)) (hsd : ∀ x, sd = some x → x) (hq : m_alls P r X q)
    (hN : ∀ ls st h, X r ls st h → g_K p l e R s m args below meth c Q g nL n0 s0 B (pc + len) ls st h) (hJ : ∀ (t : Nat) (e' : mI), P[t]? = some e' → ∀ ls st h, X (m_drop P t) ls st h → g_K p l e R s m args below meth c Q g nL n0 s0 B e'.2.2.1 ls st h) :
    g_K p l e R s m args below meth c Q g nL n0 s0 B pc ls st h := by
  obtain ⟨hx, hb, hown, hts, hK, hbase, hZ, hin, hAO⟩ := C
  have hl : len = 1 := by simpa [m_chk1] using hchk
  subst hl
  rw [m_act_eq] at ha
  simp only [m_act0, m_bin] at ha
  split at ha
  · simp only [m_go, m_sd, Option.some.injEq, Prod.mk.injEq] at ha
    obtain ⟨rfl, rfl⟩ := ha
    exact k_go (fun _ _ _ _ _ _ w => lv_iadd hx hb hd w) (hN _ _ _ hq)
  · cases ha
set_option maxHeartbeats 4000000 in
theorem ok_isub (hLk : m_Lk FL SL CL KI KL) (C : g_Cx g p s m args meth c cc o ii) {sp : Bool} {ix pc len : Nat} {an : List Nat} {kv : Int32} {kl : Int64} {ls : mL} {st : List Value} {h : mH} {sd : Option Prop} {q : List (Option Prop × mN)} {X : List mI → mL → List Value → mH → Prop} 
    (hchk : m_chk1 FL SL CL KI KL ii o P (sp, ix, pc, .isub, len, an, kv, kl) = true) (hd : decode cc pc = .ok (.isub, len)) (ha : m_act B (sp, ix, pc, .isub, len, an, kv, kl) ls st h = some (sd, q)) (hsd : ∀ x, sd = some x → x) (hq : m_alls P r X q)
    (hN : ∀ ls st h, X r ls st h → g_K p l e R s m args below meth c Q g nL n0 s0 B (pc + len) ls st h) (hJ : ∀ (t : Nat) (e' : mI), P[t]? = some e' → ∀ ls st h, X (m_drop P t) ls st h → g_K p l e R s m args below meth c Q g nL n0 s0 B e'.2.2.1 ls st h) :
    g_K p l e R s m args below meth c Q g nL n0 s0 B pc ls st h := by
  obtain ⟨hx, hb, hown, hts, hK, hbase, hZ, hin, hAO⟩ := C
  have hl : len = 1 := by simpa [m_chk1] using hchk
  subst hl
  rw [m_act_eq] at ha
  simp only [m_act0, m_bin] at ha
  split at ha
  · simp only [m_go, m_sd, Option.some.injEq, Prod.mk.injEq] at ha
    obtain ⟨rfl, rfl⟩ := ha
    exact k_go (fun _ _ _ _ _ _ w => lv_isub hx hb hd w) (hN _ _ _ hq)
  · cases ha
set_option maxHeartbeats 4000000 in
theorem ok_imul (hLk : m_Lk FL SL CL KI KL) (C : g_Cx g p s m args meth c cc o ii) {sp : Bool} {ix pc len : Nat} {an : List Nat} {kv : Int32} {kl : Int64} {ls : mL} {st : List Value} {h : mH} {sd : Option Prop} {q : List (Option Prop × mN)} {X : List mI → mL → List Value → mH → Prop} 
    (hchk : m_chk1 FL SL CL KI KL ii o P (sp, ix, pc, .imul, len, an, kv, kl) = true) (hd : decode cc pc = .ok (.imul, len)) (ha : m_act B (sp, ix, pc, .imul, len, an, kv, kl) ls st h = some (sd, q)) (hsd : ∀ x, sd = some x → x) (hq : m_alls P r X q)
    (hN : ∀ ls st h, X r ls st h → g_K p l e R s m args below meth c Q g nL n0 s0 B (pc + len) ls st h) (hJ : ∀ (t : Nat) (e' : mI), P[t]? = some e' → ∀ ls st h, X (m_drop P t) ls st h → g_K p l e R s m args below meth c Q g nL n0 s0 B e'.2.2.1 ls st h) :
    g_K p l e R s m args below meth c Q g nL n0 s0 B pc ls st h := by
  obtain ⟨hx, hb, hown, hts, hK, hbase, hZ, hin, hAO⟩ := C
  have hl : len = 1 := by simpa [m_chk1] using hchk
  subst hl
  rw [m_act_eq] at ha
  simp only [m_act0, m_bin] at ha
  split at ha
  · simp only [m_go, m_sd, Option.some.injEq, Prod.mk.injEq] at ha
    obtain ⟨rfl, rfl⟩ := ha
    exact k_go (fun _ _ _ _ _ _ w => lv_imul hx hb hd w) (hN _ _ _ hq)
  · cases ha
set_option maxHeartbeats 4000000 in
theorem ok_iand (hLk : m_Lk FL SL CL KI KL) (C : g_Cx g p s m args meth c cc o ii) {sp : Bool} {ix pc len : Nat} {an : List Nat} {kv : Int32} {kl : Int64} {ls : mL} {st : List Value} {h : mH} {sd : Option Prop} {q : List (Option Prop × mN)} {X : List mI → mL → List Value → mH → Prop} 
    (hchk : m_chk1 FL SL CL KI KL ii o P (sp, ix, pc, .iand, len, an, kv, kl) = true) (hd : decode cc pc = .ok (.iand, len)) (ha : m_act B (sp, ix, pc, .iand, len, an, kv, kl) ls st h = some (sd, q)) (hsd : ∀ x, sd = some x → x) (hq : m_alls P r X q)
    (hN : ∀ ls st h, X r ls st h → g_K p l e R s m args below meth c Q g nL n0 s0 B (pc + len) ls st h) (hJ : ∀ (t : Nat) (e' : mI), P[t]? = some e' → ∀ ls st h, X (m_drop P t) ls st h → g_K p l e R s m args below meth c Q g nL n0 s0 B e'.2.2.1 ls st h) :
    g_K p l e R s m args below meth c Q g nL n0 s0 B pc ls st h := by
  obtain ⟨hx, hb, hown, hts, hK, hbase, hZ, hin, hAO⟩ := C
  have hl : len = 1 := by simpa [m_chk1] using hchk
  subst hl
  rw [m_act_eq] at ha
  simp only [m_act0, m_bin] at ha
  split at ha
  · simp only [m_go, m_sd, Option.some.injEq, Prod.mk.injEq] at ha
    obtain ⟨rfl, rfl⟩ := ha
    exact k_go (fun _ _ _ _ _ _ w => lv_iand hx hb hd w) (hN _ _ _ hq)
  · cases ha
set_option maxHeartbeats 4000000 in
theorem ok_ior (hLk : m_Lk FL SL CL KI KL) (C : g_Cx g p s m args meth c cc o ii) {sp : Bool} {ix pc len : Nat} {an : List Nat} {kv : Int32} {kl : Int64} {ls : mL} {st : List Value} {h : mH} {sd : Option Prop} {q : List (Option Prop × mN)} {X : List mI → mL → List Value → mH → Prop} 
    (hchk : m_chk1 FL SL CL KI KL ii o P (sp, ix, pc, .ior, len, an, kv, kl) = true) (hd : decode cc pc = .ok (.ior, len)) (ha : m_act B (sp, ix, pc, .ior, len, an, kv, kl) ls st h = some (sd, q)) (hsd : ∀ x, sd = some x → x) (hq : m_alls P r X q)
    (hN : ∀ ls st h, X r ls st h → g_K p l e R s m args below meth c Q g nL n0 s0 B (pc + len) ls st h) (hJ : ∀ (t : Nat) (e' : mI), P[t]? = some e' → ∀ ls st h, X (m_drop P t) ls st h → g_K p l e R s m args below meth c Q g nL n0 s0 B e'.2.2.1 ls st h) :
    g_K p l e R s m args below meth c Q g nL n0 s0 B pc ls st h := by
  obtain ⟨hx, hb, hown, hts, hK, hbase, hZ, hin, hAO⟩ := C
  have hl : len = 1 := by simpa [m_chk1] using hchk
  subst hl
  rw [m_act_eq] at ha
  simp only [m_act0, m_bin] at ha
  split at ha
  · simp only [m_go, m_sd, Option.some.injEq, Prod.mk.injEq] at ha
    obtain ⟨rfl, rfl⟩ := ha
    exact k_go (fun _ _ _ _ _ _ w => lv_ior hx hb hd w) (hN _ _ _ hq)
  · cases ha
set_option maxHeartbeats 4000000 in
theorem ok_ixor (hLk : m_Lk FL SL CL KI KL) (C : g_Cx g p s m args meth c cc o ii) {sp : Bool} {ix pc len : Nat} {an : List Nat} {kv : Int32} {kl : Int64} {ls : mL} {st : List Value} {h : mH} {sd : Option Prop} {q : List (Option Prop × mN)} {X : List mI → mL → List Value → mH → Prop} 
    (hchk : m_chk1 FL SL CL KI KL ii o P (sp, ix, pc, .ixor, len, an, kv, kl) = true) (hd : decode cc pc = .ok (.ixor, len)) (ha : m_act B (sp, ix, pc, .ixor, len, an, kv, kl) ls st h = some (sd, q)) (hsd : ∀ x, sd = some x → x) (hq : m_alls P r X q)
    (hN : ∀ ls st h, X r ls st h → g_K p l e R s m args below meth c Q g nL n0 s0 B (pc + len) ls st h) (hJ : ∀ (t : Nat) (e' : mI), P[t]? = some e' → ∀ ls st h, X (m_drop P t) ls st h → g_K p l e R s m args below meth c Q g nL n0 s0 B e'.2.2.1 ls st h) :
    g_K p l e R s m args below meth c Q g nL n0 s0 B pc ls st h := by
  obtain ⟨hx, hb, hown, hts, hK, hbase, hZ, hin, hAO⟩ := C
  have hl : len = 1 := by simpa [m_chk1] using hchk
  subst hl
  rw [m_act_eq] at ha
  simp only [m_act0, m_bin] at ha
  split at ha
  · simp only [m_go, m_sd, Option.some.injEq, Prod.mk.injEq] at ha
    obtain ⟨rfl, rfl⟩ := ha
    exact k_go (fun _ _ _ _ _ _ w => lv_ixor hx hb hd w) (hN _ _ _ hq)
  · cases ha
set_option maxHeartbeats 4000000 in
theorem ok_ishl (hLk : m_Lk FL SL CL KI KL) (C : g_Cx g p s m args meth c cc o ii) {sp : Bool} {ix pc len : Nat} {an : List Nat} {kv : Int32} {kl : Int64} {ls : mL} {st : List Value} {h : mH} {sd : Option Prop} {q : List (Option Prop × mN)} {X : List mI → mL → List Value → mH → Prop} 
    (hchk : m_chk1 FL SL CL KI KL ii o P (sp, ix, pc, .ishl, len, an, kv, kl) = true) (hd : decode cc pc = .ok (.ishl, len)) (ha : m_act B (sp, ix, pc, .ishl, len, an, kv, kl) ls st h = some (sd, q)) (hsd : ∀ x, sd = some x → x) (hq : m_alls P r X q)
    (hN : ∀ ls st h, X r ls st h → g_K p l e R s m args below meth c Q g nL n0 s0 B (pc + len) ls st h) (hJ : ∀ (t : Nat) (e' : mI), P[t]? = some e' → ∀ ls st h, X (m_drop P t) ls st h → g_K p l e R s m args below meth c Q g nL n0 s0 B e'.2.2.1 ls st h) :
    g_K p l e R s m args below meth c Q g nL n0 s0 B pc ls st h := by
  obtain ⟨hx, hb, hown, hts, hK, hbase, hZ, hin, hAO⟩ := C
  have hl : len = 1 := by simpa [m_chk1] using hchk
  subst hl
  rw [m_act_eq] at ha
  simp only [m_act0, m_bin] at ha
  split at ha
  · simp only [m_go, m_sd, Option.some.injEq, Prod.mk.injEq] at ha
    obtain ⟨rfl, rfl⟩ := ha
    exact k_go (fun _ _ _ _ _ _ w => lv_ishl hx hb hd w) (hN _ _ _ hq)
  · cases ha
set_option maxHeartbeats 4000000 in
theorem ok_ishr (hLk : m_Lk FL SL CL KI KL) (C : g_Cx g p s m args meth c cc o ii) {sp : Bool} {ix pc len : Nat} {an : List Nat} {kv : Int32} {kl : Int64} {ls : mL} {st : List Value} {h : mH} {sd : Option Prop} {q : List (Option Prop × mN)} {X : List mI → mL → List Value → mH → Prop} 
    (hchk : m_chk1 FL SL CL KI KL ii o P (sp, ix, pc, .ishr, len, an, kv, kl) = true) (hd : decode cc pc = .ok (.ishr, len)) (ha : m_act B (sp, ix, pc, .ishr, len, an, kv, kl) ls st h = some (sd, q)) (hsd : ∀ x, sd = some x → x) (hq : m_alls P r X q)
    (hN : ∀ ls st h, X r ls st h → g_K p l e R s m args below meth c Q g nL n0 s0 B (pc + len) ls st h) (hJ : ∀ (t : Nat) (e' : mI), P[t]? = some e' → ∀ ls st h, X (m_drop P t) ls st h → g_K p l e R s m args below meth c Q g nL n0 s0 B e'.2.2.1 ls st h) :
    g_K p l e R s m args below meth c Q g nL n0 s0 B pc ls st h := by
  obtain ⟨hx, hb, hown, hts, hK, hbase, hZ, hin, hAO⟩ := C
  have hl : len = 1 := by simpa [m_chk1] using hchk
  subst hl
  rw [m_act_eq] at ha
  simp only [m_act0, m_bin] at ha
  split at ha
  · simp only [m_go, m_sd, Option.some.injEq, Prod.mk.injEq] at ha
    obtain ⟨rfl, rfl⟩ := ha
    exact k_go (fun _ _ _ _ _ _ w => lv_ishr hx hb hd w) (hN _ _ _ hq)
  · cases ha
set_option maxHeartbeats 4000000 in
theorem ok_iushr (hLk : m_Lk FL SL CL KI KL) (C : g_Cx g p s m args meth c cc o ii) {sp : Bool} {ix pc len : Nat} {an : List Nat} {kv : Int32} {kl : Int64} {ls : mL} {st : List Value} {h : mH} {sd : Option Prop} {q : List (Option Prop × mN)} {X : List mI → mL → List Value → mH → Prop} 
    (hchk : m_chk1 FL SL CL KI KL ii o P (sp, ix, pc, .iushr, len, an, kv, kl) = true) (hd : decode cc pc = .ok (.iushr, len)) (ha : m_act B (sp, ix, pc, .iushr, len, an, kv, kl) ls st h = some (sd, q)) (hsd : ∀ x, sd = some x → x) (hq : m_alls P r X q)
    (hN : ∀ ls st h, X r ls st h → g_K p l e R s m args below meth c Q g nL n0 s0 B (pc + len) ls st h) (hJ : ∀ (t : Nat) (e' : mI), P[t]? = some e' → ∀ ls st h, X (m_drop P t) ls st h → g_K p l e R s m args below meth c Q g nL n0 s0 B e'.2.2.1 ls st h) :
    g_K p l e R s m args below meth c Q g nL n0 s0 B pc ls st h := by
  obtain ⟨hx, hb, hown, hts, hK, hbase, hZ, hin, hAO⟩ := C
  have hl : len = 1 := by simpa [m_chk1] using hchk
  subst hl
  rw [m_act_eq] at ha
  simp only [m_act0, m_bin] at ha
  split at ha
  · simp only [m_go, m_sd, Option.some.injEq, Prod.mk.injEq] at ha
    obtain ⟨rfl, rfl⟩ := ha
    exact k_go (fun _ _ _ _ _ _ w => lv_iushr hx hb hd rfl w) (hN _ _ _ hq)
  · cases ha
set_option maxHeartbeats 4000000 in
theorem ok_ladd (hLk : m_Lk FL SL CL KI KL) (C : g_Cx g p s m args meth c cc o ii) {sp : Bool} {ix pc len : Nat} {an : List Nat} {kv : Int32} {kl : Int64} {ls : mL} {st : List Value} {h : mH} {sd : Option Prop} {q : List (Option Prop × mN)} {X : List mI → mL → List Value → mH → Prop} 
    (hchk : m_chk1 FL SL CL KI KL ii o P (sp, ix, pc, .ladd, len, an, kv, kl) = true) (hd : decode cc pc = .ok (.ladd, len)) (ha : m_act B (sp, ix, pc, .ladd, len, an, kv, kl) ls st h = some (sd, q)) (hsd : ∀ x, sd = some x → x) (hq : m_alls P r X q)
    (hN : ∀ ls st h, X r ls st h → g_K p l e R s m args below meth c Q g nL n0 s0 B (pc + len) ls st h) (hJ : ∀ (t : Nat) (e' : mI), P[t]? = some e' → ∀ ls st h, X (m_drop P t) ls st h → g_K p l e R s m args below meth c Q g nL n0 s0 B e'.2.2.1 ls st h) :
    g_K p l e R s m args below meth c Q g nL n0 s0 B pc ls st h := by
  obtain ⟨hx, hb, hown, hts, hK, hbase, hZ, hin, hAO⟩ := C
  have hl : len = 1 := by simpa [m_chk1] using hchk
  subst hl
  rw [m_act_eq] at ha
  simp only [m_act0, m_binl] at ha
  split at ha
  · simp only [m_go, m_sd, Option.some.injEq, Prod.mk.injEq] at ha
    obtain ⟨rfl, rfl⟩ := ha
    exact k_go (fun _ _ _ _ _ _ w => lv_ladd hx hb hd w) (hN _ _ _ hq)
  · cases ha
set_option maxHeartbeats 4000000 in
theorem ok_lsub (hLk : m_Lk FL SL CL KI KL) (C : g_Cx g p s m args meth c cc o ii) {sp : Bool} {ix pc len : Nat} {an : List Nat} {kv : Int32} {kl : Int64} {ls : mL} {st : List Value} {h : mH} {sd : Option Prop} {q : List (Option Prop × mN)} {X : List mI → mL → List Value → mH → Prop} 
    (hchk : m_chk1 FL SL CL KI KL ii o P (sp, ix, pc, .lsub, len, an, kv, kl) = true) (hd : decode cc pc = .ok (.lsub, len)) (ha : m_act B (sp, ix, pc, .lsub, len, an, kv, kl) ls st h = some (sd, q)) (hsd : ∀ x, sd = some x → x) (hq : m_alls P r X q)
    (hN : ∀ ls st h, X r ls st h → g_K p l e R s m args below meth c Q g nL n0 s0 B (pc + len) ls st h) (hJ : ∀ (t : Nat) (e' : mI), P[t]? = some e' → ∀ ls st h, X (m_drop P t) ls st h → g_K p l e R s m args below meth c Q g nL n0 s0 B e'.2.2.1 ls st h) :
    g_K p l e R s m args below meth c Q g nL n0 s0 B pc ls st h := by
  obtain ⟨hx, hb, hown, hts, hK, hbase, hZ, hin, hAO⟩ := C
  have hl : len = 1 := by simpa [m_chk1] using hchk
  subst hl
  rw [m_act_eq] at ha
  simp only [m_act0, m_binl] at ha
  split at ha
  · simp only [m_go, m_sd, Option.some.injEq, Prod.mk.injEq] at ha
    obtain ⟨rfl, rfl⟩ := ha
    exact k_go (fun _ _ _ _ _ _ w => lv_lsub hx hb hd w) (hN _ _ _ hq)
  · cases ha
set_option maxHeartbeats 4000000 in
theorem ok_lmul (hLk : m_Lk FL SL CL KI KL) (C : g_Cx g p s m args meth c cc o ii) {sp : Bool} {ix pc len : Nat} {an : List Nat} {kv : Int32} {kl : Int64} {ls : mL} {st : List Value} {h : mH} {sd : Option Prop} {q : List (Option Prop × mN)} {X : List mI → mL → List Value → mH → Prop} 
    (hchk : m_chk1 FL SL CL KI KL ii o P (sp, ix, pc, .lmul, len, an, kv, kl) = true) (hd : decode cc pc = .ok (.lmul, len)) (ha : m_act B (sp, ix, pc, .lmul, len, an, kv, kl) ls st h = some (sd, q)) (hsd : ∀ x, sd = some x → x) (hq : m_alls P r X q)
    (hN : ∀ ls st h, X r ls st h → g_K p l e R s m args below meth c Q g nL n0 s0 B (pc + len) ls st h) (hJ : ∀ (t : Nat) (e' : mI), P[t]? = some e' → ∀ ls st h, X (m_drop P t) ls st h → g_K p l e R s m args below meth c Q g nL n0 s0 B e'.2.2.1 ls st h) :
    g_K p l e R s m args below meth c Q g nL n0 s0 B pc ls st h := by
  obtain ⟨hx, hb, hown, hts, hK, hbase, hZ, hin, hAO⟩ := C
  have hl : len = 1 := by simpa [m_chk1] using hchk
  subst hl
  rw [m_act_eq] at ha
  simp only [m_act0, m_binl] at ha
  split at ha
  · simp only [m_go, m_sd, Option.some.injEq, Prod.mk.injEq] at ha
    obtain ⟨rfl, rfl⟩ := ha
    exact k_go (fun _ _ _ _ _ _ w => lv_lmul hx hb hd w) (hN _ _ _ hq)
  · cases ha
set_option maxHeartbeats 4000000 in
theorem ok_land (hLk : m_Lk FL SL CL KI KL) (C : g_Cx g p s m args meth c cc o ii) {sp : Bool} {ix pc len : Nat} {an : List Nat} {kv : Int32} {kl : Int64} {ls : mL} {st : List Value} {h : mH} {sd : Option Prop} {q : List (Option Prop × mN)} {X : List mI → mL → List Value → mH → Prop} 
    (hchk : m_chk1 FL SL CL KI KL ii o P (sp, ix, pc, .land, len, an, kv, kl) = true) (hd : decode cc pc = .ok (.land, len)) (ha : m_act B (sp, ix, pc, .land, len, an, kv, kl) ls st h = some (sd, q)) (hsd : ∀ x, sd = some x → x) (hq : m_alls P r X q)
    (hN : ∀ ls st h, X r ls st h → g_K p l e R s m args below meth c Q g nL n0 s0 B (pc + len) ls st h) (hJ : ∀ (t : Nat) (e' : mI), P[t]? = some e' → ∀ ls st h, X (m_drop P t) ls st h → g_K p l e R s m args below meth c Q g nL n0 s0 B e'.2.2.1 ls st h) :
    g_K p l e R s m args below meth c Q g nL n0 s0 B pc ls st h := by
  obtain ⟨hx, hb, hown, hts, hK, hbase, hZ, hin, hAO⟩ := C
  have hl : len = 1 := by simpa [m_chk1] using hchk
  subst hl
  rw [m_act_eq] at ha
  simp only [m_act0, m_binl] at ha
  split at ha
  · simp only [m_go, m_sd, Option.some.injEq, Prod.mk.injEq] at ha
    obtain ⟨rfl, rfl⟩ := ha
    exact k_go (fun _ _ _ _ _ _ w => lv_land hx hb hd w) (hN _ _ _ hq)
  · cases ha
set_option maxHeartbeats 4000000 in
theorem ok_lor (hLk : m_Lk FL SL CL KI KL) (C : g_Cx g p s m args meth c cc o ii) {sp : Bool} {ix pc len : Nat} {an : List Nat} {kv : Int32} {kl : Int64} {ls : mL} {st : List Value} {h : mH} {sd : Option Prop} {q : List (Option Prop × mN)} {X : List mI → mL → List Value → mH → Prop} 
    (hchk : m_chk1 FL SL CL KI KL ii o P (sp, ix, pc, .lor, len, an, kv, kl) = true) (hd : decode cc pc = .ok (.lor, len)) (ha : m_act B (sp, ix, pc, .lor, len, an, kv, kl) ls st h = some (sd, q)) (hsd : ∀ x, sd = some x → x) (hq : m_alls P r X q)
    (hN : ∀ ls st h, X r ls st h → g_K p l e R s m args below meth c Q g nL n0 s0 B (pc + len) ls st h) (hJ : ∀ (t : Nat) (e' : mI), P[t]? = some e' → ∀ ls st h, X (m_drop P t) ls st h → g_K p l e R s m args below meth c Q g nL n0 s0 B e'.2.2.1 ls st h) :
    g_K p l e R s m args below meth c Q g nL n0 s0 B pc ls st h := by
  obtain ⟨hx, hb, hown, hts, hK, hbase, hZ, hin, hAO⟩ := C
  have hl : len = 1 := by simpa [m_chk1] using hchk
  subst hl
  rw [m_act_eq] at ha
  simp only [m_act0, m_binl] at ha
  split at ha
  · simp only [m_go, m_sd, Option.some.injEq, Prod.mk.injEq] at ha
    obtain ⟨rfl, rfl⟩ := ha
    exact k_go (fun _ _ _ _ _ _ w => lv_lor hx hb hd w) (hN _ _ _ hq)
  · cases ha
set_option maxHeartbeats 4000000 in
theorem ok_lshl (hLk : m_Lk FL SL CL KI KL) (C : g_Cx g p s m args meth c cc o ii) {sp : Bool} {ix pc len : Nat} {an : List Nat} {kv : Int32} {kl : Int64} {ls : mL} {st : List Value} {h : mH} {sd : Option Prop} {q : List (Option Prop × mN)} {X : List mI → mL → List Value → mH → Prop} 
    (hchk : m_chk1 FL SL CL KI KL ii o P (sp, ix, pc, .lshl, len, an, kv, kl) = true) (hd : decode cc pc = .ok (.lshl, len)) (ha : m_act B (sp, ix, pc, .lshl, len, an, kv, kl) ls st h = some (sd, q)) (hsd : ∀ x, sd = some x → x) (hq : m_alls P r X q)
    (hN : ∀ ls st h, X r ls st h → g_K p l e R s m args below meth c Q g nL n0 s0 B (pc + len) ls st h) (hJ : ∀ (t : Nat) (e' : mI), P[t]? = some e' → ∀ ls st h, X (m_drop P t) ls st h → g_K p l e R s m args below meth c Q g nL n0 s0 B e'.2.2.1 ls st h) :
    g_K p l e R s m args below meth c Q g nL n0 s0 B pc ls st h := by
  obtain ⟨hx, hb, hown, hts, hK, hbase, hZ, hin, hAO⟩ := C
  have hl : len = 1 := by simpa [m_chk1] using hchk
  subst hl
  rw [m_act_eq] at ha
  simp only [m_act0, m_shl] at ha
  split at ha
  · simp only [m_go, m_sd, Option.some.injEq, Prod.mk.injEq] at ha
    obtain ⟨rfl, rfl⟩ := ha
    exact k_go (fun _ _ _ _ _ _ w => lv_lshl hx hb hd rfl w) (hN _ _ _ hq)
  · cases ha
set_option maxHeartbeats 4000000 in
theorem ok_lshr (hLk : m_Lk FL SL CL KI KL) (C : g_Cx g p s m args meth c cc o ii) {sp : Bool} {ix pc len : Nat} {an : List Nat} {kv : Int32} {kl : Int64} {ls : mL} {st : List Value} {h : mH} {sd : Option Prop} {q : List (Option Prop × mN)} {X : List mI → mL → List Value → mH → Prop} 
    (hchk : m_chk1 FL SL CL KI KL ii o P (sp, ix, pc, .lshr, len, an, kv, kl) = true) (hd : decode cc pc = .ok (.lshr, len)) (ha : m_act B (sp, ix, pc, .lshr, len, an, kv, kl) ls st h = some (sd, q)) (hsd : ∀ x, sd = some x → x) (hq : m_alls P r X q)
    (hN : ∀ ls st h, X r ls st h → g_K p l e R s m args below meth c Q g nL n0 s0 B (pc + len) ls st h) (hJ : ∀ (t : Nat) (e' : mI), P[t]? = some e' → ∀ ls st h, X (m_drop P t) ls st h → g_K p l e R s m args below meth c Q g nL n0 s0 B e'.2.2.1 ls st h) :
    g_K p l e R s m args below meth c Q g nL n0 s0 B pc ls st h := by
  obtain ⟨hx, hb, hown, hts, hK, hbase, hZ, hin, hAO⟩ := C
  have hl : len = 1 := by simpa [m_chk1] using hchk
  subst hl
  rw [m_act_eq] at ha
  simp only [m_act0, m_shl] at ha
  split at ha
  · simp only [m_go, m_sd, Option.some.injEq, Prod.mk.injEq] at ha
    obtain ⟨rfl, rfl⟩ := ha
    exact k_go (fun _ _ _ _ _ _ w => lv_lshr hx hb hd rfl w) (hN _ _ _ hq)
  · cases ha
set_option maxHeartbeats 4000000 in
theorem ok_lushr (hLk : m_Lk FL SL CL KI KL) (C : g_Cx g p s m args meth c cc o ii) {sp : Bool} {ix pc len : Nat} {an : List Nat} {kv : Int32} {kl : Int64} {ls : mL} {st : List Value} {h : mH} {sd : Option Prop} {q : List (Option Prop × mN)} {X : List mI → mL → List Value → mH → Prop} 
    (hchk : m_chk1 FL SL CL KI KL ii o P (sp, ix, pc, .lushr, len, an, kv, kl) = true) (hd : decode cc pc = .ok (.lushr, len)) (ha : m_act B (sp, ix, pc, .lushr, len, an, kv, kl) ls st h = some (sd, q)) (hsd : ∀ x, sd = some x → x) (hq : m_alls P r X q)
    (hN : ∀ ls st h, X r ls st h → g_K p l e R s m args below meth c Q g nL n0 s0 B (pc + len) ls st h) (hJ : ∀ (t : Nat) (e' : mI), P[t]? = some e' → ∀ ls st h, X (m_drop P t) ls st h → g_K p l e R s m args below meth c Q g nL n0 s0 B e'.2.2.1 ls st h) :
    g_K p l e R s m args below meth c Q g nL n0 s0 B pc ls st h := by
  obtain ⟨hx, hb, hown, hts, hK, hbase, hZ, hin, hAO⟩ := C
  have hl : len = 1 := by simpa [m_chk1] using hchk
  subst hl
  rw [m_act_eq] at ha
  simp only [m_act0, m_shl] at ha
  split at ha
  · simp only [m_go, m_sd, Option.some.injEq, Prod.mk.injEq] at ha
    obtain ⟨rfl, rfl⟩ := ha
    exact k_go (fun _ _ _ _ _ _ w => lv_lushr hx hb hd rfl w) (hN _ _ _ hq)
  · cases ha
set_option maxHeartbeats 4000000 in
theorem ok_idiv (hLk : m_Lk FL SL CL KI KL) (C : g_Cx g p s m args meth c cc o ii) {sp : Bool} {ix pc len : Nat} {an : List Nat} {kv : Int32} {kl : Int64} {ls : mL} {st : List Value} {h : mH} {sd : Option Prop} {q : List (Option Prop × mN)} {X : List mI → mL → List Value → mH → Prop} 
    (hchk : m_chk1 FL SL CL KI KL ii o P (sp, ix, pc, .idiv, len, an, kv, kl) = true) (hd : decode cc pc = .ok (.idiv, len)) (ha : m_act B (sp, ix, pc, .idiv, len, an, kv, kl) ls st h = some (sd, q)) (hsd : ∀ x, sd = some x → x) (hq : m_alls P r X q)
    (hN : ∀ ls st h, X r ls st h → g_K p l e R s m args below meth c Q g nL n0 s0 B (pc + len) ls st h) (hJ : ∀ (t : Nat) (e' : mI), P[t]? = some e' → ∀ ls st h, X (m_drop P t) ls st h → g_K p l e R s m args below meth c Q g nL n0 s0 B e'.2.2.1 ls st h) :
    g_K p l e R s m args below meth c Q g nL n0 s0 B pc ls st h := by
  obtain ⟨hx, hb, hown, hts, hK, hbase, hZ, hin, hAO⟩ := C
  have hl : len = 1 := by simpa [m_chk1] using hchk
  subst hl
  rw [m_act_eq] at ha
  simp only [m_act0] at ha
  split at ha
  · simp only [m_go, m_sd, Option.some.injEq, Prod.mk.injEq] at ha
    obtain ⟨rfl, rfl⟩ := ha
    exact k_go (fun _ _ _ _ _ _ w => lv_idiv hx hb hd (hsd _ rfl) w) (hN _ _ _ hq)
  · cases ha
set_option maxHeartbeats 4000000 in
theorem ok_ldiv (hLk : m_Lk FL SL CL KI KL) (C : g_Cx g p s m args meth c cc o ii) {sp : Bool} {ix pc len : Nat} {an : List Nat} {kv : Int32} {kl : Int64} {ls : mL} {st : List Value} {h : mH} {sd : Option Prop} {q : List (Option Prop × mN)} {X : List mI → mL → List Value → mH → Prop} 
    (hchk : m_chk1 FL SL CL KI KL ii o P (sp, ix, pc, .ldiv, len, an, kv, kl) = true) (hd : decode cc pc = .ok (.ldiv, len)) (ha : m_act B (sp, ix, pc, .ldiv, len, an, kv, kl) ls st h = some (sd, q)) (hsd : ∀ x, sd = some x → x) (hq : m_alls P r X q)
    (hN : ∀ ls st h, X r ls st h → g_K p l e R s m args below meth c Q g nL n0 s0 B (pc + len) ls st h) (hJ : ∀ (t : Nat) (e' : mI), P[t]? = some e' → ∀ ls st h, X (m_drop P t) ls st h → g_K p l e R s m args below meth c Q g nL n0 s0 B e'.2.2.1 ls st h) :
    g_K p l e R s m args below meth c Q g nL n0 s0 B pc ls st h := by
  obtain ⟨hx, hb, hown, hts, hK, hbase, hZ, hin, hAO⟩ := C
  have hl : len = 1 := by simpa [m_chk1] using hchk
  subst hl
  rw [m_act_eq] at ha
  simp only [m_act0] at ha
  split at ha
  · simp only [m_go, m_sd, Option.some.injEq, Prod.mk.injEq] at ha
    obtain ⟨rfl, rfl⟩ := ha
    exact k_go (fun _ _ _ _ _ _ w => lv_ldiv hx hb hd (hsd _ rfl) w) (hN _ _ _ hq)
  · cases ha
set_option maxHeartbeats 4000000 in
theorem ok_ineg (hLk : m_Lk FL SL CL KI KL) (C : g_Cx g p s m args meth c cc o ii) {sp : Bool} {ix pc len : Nat} {an : List Nat} {kv : Int32} {kl : Int64} {ls : mL} {st : List Value} {h : mH} {sd : Option Prop} {q : List (Option Prop × mN)} {X : List mI → mL → List Value → mH → Prop} 
    (hchk : m_chk1 FL SL CL KI KL ii o P (sp, ix, pc, .ineg, len, an, kv, kl) = true) (hd : decode cc pc = .ok (.ineg, len)) (ha : m_act B (sp, ix, pc, .ineg, len, an, kv, kl) ls st h = some (sd, q)) (hsd : ∀ x, sd = some x → x) (hq : m_alls P r X q)
    (hN : ∀ ls st h, X r ls st h → g_K p l e R s m args below meth c Q g nL n0 s0 B (pc + len) ls st h) (hJ : ∀ (t : Nat) (e' : mI), P[t]? = some e' → ∀ ls st h, X (m_drop P t) ls st h → g_K p l e R s m args below meth c Q g nL n0 s0 B e'.2.2.1 ls st h) :
    g_K p l e R s m args below meth c Q g nL n0 s0 B pc ls st h := by
  obtain ⟨hx, hb, hown, hts, hK, hbase, hZ, hin, hAO⟩ := C
  have hl : len = 1 := by simpa [m_chk1] using hchk
  subst hl
  rw [m_act_eq] at ha
  simp only [m_act0] at ha
  split at ha
  · simp only [m_go, m_sd, Option.some.injEq, Prod.mk.injEq] at ha
    obtain ⟨rfl, rfl⟩ := ha
    exact k_go (fun _ _ _ _ _ _ w => lv_ineg hx hb hd w) (hN _ _ _ hq)
  · cases ha
set_option maxHeartbeats 4000000 in
theorem ok_lneg (hLk : m_Lk FL SL CL KI KL) (C : g_Cx g p s m args meth c cc o ii) {sp : Bool} {ix pc len : Nat} {an : List Nat} {kv : Int32} {kl : Int64} {ls : mL} {st : List Value} {h : mH} {sd : Option Prop} {q : List (Option Prop × mN)} {X : List mI → mL → List Value → mH → Prop} 
    (hchk : m_chk1 FL SL CL KI KL ii o P (sp, ix, pc, .lneg, len, an, kv, kl) = true) (hd : decode cc pc = .ok (.lneg, len)) (ha : m_act B (sp, ix, pc, .lneg, len, an, kv, kl) ls st h = some (sd, q)) (hsd : ∀ x, sd = some x → x) (hq : m_alls P r X q)
    (hN : ∀ ls st h, X r ls st h → g_K p l e R s m args below meth c Q g nL n0 s0 B (pc + len) ls st h) (hJ : ∀ (t : Nat) (e' : mI), P[t]? = some e' → ∀ ls st h, X (m_drop P t) ls st h → g_K p l e R s m args below meth c Q g nL n0 s0 B e'.2.2.1 ls st h) :
    g_K p l e R s m args below meth c Q g nL n0 s0 B pc ls st h := by
  obtain ⟨hx, hb, hown, hts, hK, hbase, hZ, hin, hAO⟩ := C
  have hl : len = 1 := by simpa [m_chk1] using hchk
  subst hl
  rw [m_act_eq] at ha
  simp only [m_act0] at ha
  split at ha
  · simp only [m_go, m_sd, Option.some.injEq, Prod.mk.injEq] at ha
    obtain ⟨rfl, rfl⟩ := ha
    exact k_go (fun _ _ _ _ _ _ w => lv_lneg hx hb hd w) (hN _ _ _ hq)
  · cases ha
set_option maxHeartbeats 4000000 in
theorem ok_lcmp (hLk : m_Lk FL SL CL KI KL) (C : g_Cx g p s m args meth c cc o ii) {sp : Bool} {ix pc len : Nat} {an : List Nat} {kv : Int32} {kl : Int64} {ls : mL} {st : List Value} {h : mH} {sd : Option Prop} {q : List (Option Prop × mN)} {X : List mI → mL → List Value → mH → Prop} 
    (hchk : m_chk1 FL SL CL KI KL ii o P (sp, ix, pc, .lcmp, len, an, kv, kl) = true) (hd : decode cc pc = .ok (.lcmp, len)) (ha : m_act B (sp, ix, pc, .lcmp, len, an, kv, kl) ls st h = some (sd, q)) (hsd : ∀ x, sd = some x → x) (hq : m_alls P r X q)
    (hN : ∀ ls st h, X r ls st h → g_K p l e R s m args below meth c Q g nL n0 s0 B (pc + len) ls st h) (hJ : ∀ (t : Nat) (e' : mI), P[t]? = some e' → ∀ ls st h, X (m_drop P t) ls st h → g_K p l e R s m args below meth c Q g nL n0 s0 B e'.2.2.1 ls st h) :
    g_K p l e R s m args below meth c Q g nL n0 s0 B pc ls st h := by
  obtain ⟨hx, hb, hown, hts, hK, hbase, hZ, hin, hAO⟩ := C
  have hl : len = 1 := by simpa [m_chk1] using hchk
  subst hl
  rw [m_act_eq] at ha
  simp only [m_act0] at ha
  split at ha
  · simp only [m_go, m_sd, Option.some.injEq, Prod.mk.injEq] at ha
    obtain ⟨rfl, rfl⟩ := ha
    exact k_go (fun _ _ _ _ _ _ w => W.lcmp hx hb hd w) (hN _ _ _ hq)
  · cases ha
set_option maxHeartbeats 4000000 in
theorem ok_i2l (hLk : m_Lk FL SL CL KI KL) (C : g_Cx g p s m args meth c cc o ii) {sp : Bool} {ix pc len : Nat} {an : List Nat} {kv : Int32} {kl : Int64} {ls : mL} {st : List Value} {h : mH} {sd : Option Prop} {q : List (Option Prop × mN)} {X : List mI → mL → List Value → mH → Prop} 
    (hchk : m_chk1 FL SL CL KI KL ii o P (sp, ix, pc, .i2l, len, an, kv, kl) = true) (hd : decode cc pc = .ok (.i2l, len)) (ha : m_act B (sp, ix, pc, .i2l, len, an, kv, kl) ls st h = some (sd, q)) (hsd : ∀ x, sd = some x → x) (hq : m_alls P r X q)
    (hN : ∀ ls st h, X r ls st h → g_K p l e R s m args below meth c Q g nL n0 s0 B (pc + len) ls st h) (hJ : ∀ (t : Nat) (e' : mI), P[t]? = some e' → ∀ ls st h, X (m_drop P t) ls st h → g_K p l e R s m args below meth c Q g nL n0 s0 B e'.2.2.1 ls st h) :
    g_K p l e R s m args below meth c Q g nL n0 s0 B pc ls st h := by
  obtain ⟨hx, hb, hown, hts, hK, hbase, hZ, hin, hAO⟩ := C
  have hl : len = 1 := by simpa [m_chk1] using hchk
  subst hl
  rw [m_act_eq] at ha
  simp only [m_act0] at ha
  split at ha
  · simp only [m_go, m_sd, Option.some.injEq, Prod.mk.injEq] at ha
    obtain ⟨rfl, rfl⟩ := ha
    exact k_go (fun _ _ _ _ _ _ w => lv_i2l hx hb hd rfl w) (hN _ _ _ hq)
  · cases ha
set_option maxHeartbeats 4000000 in
theorem ok_l2i (hLk : m_Lk FL SL CL KI KL) (C : g_Cx g p s m args meth c cc o ii) {sp : Bool} {ix pc len : Nat} {an : List Nat} {kv : Int32} {kl : Int64} {ls : mL} {st : List Value} {h : mH} {sd : Option Prop} {q : List (Option Prop × mN)} {X : List mI → mL → List Value → mH → Prop} 
    (hchk : m_chk1 FL SL CL KI KL ii o P (sp, ix, pc, .l2i, len, an, kv, kl) = true) (hd : decode cc pc = .ok (.l2i, len)) (ha : m_act B (sp, ix, pc, .l2i, len, an, kv, kl) ls st h = some (sd, q)) (hsd : ∀ x, sd = some x → x) (hq : m_alls P r X q)
    (hN : ∀ ls st h, X r ls st h → g_K p l e R s m args below meth c Q g nL n0 s0 B (pc + len) ls st h) (hJ : ∀ (t : Nat) (e' : mI), P[t]? = some e' → ∀ ls st h, X (m_drop P t) ls st h → g_K p l e R s m args below meth c Q g nL n0 s0 B e'.2.2.1 ls st h) :
    g_K p l e R s m args below meth c Q g nL n0 s0 B pc ls st h := by
  obtain ⟨hx, hb, hown, hts, hK, hbase, hZ, hin, hAO⟩ := C
  have hl : len = 1 := by simpa [m_chk1] using hchk
  subst hl
  rw [m_act_eq] at ha
  simp only [m_act0] at ha
  split at ha
  · simp only [m_go, m_sd, Option.some.injEq, Prod.mk.injEq] at ha
    obtain ⟨rfl, rfl⟩ := ha
    exact k_go (fun _ _ _ _ _ _ w => lv_l2i hx hb hd rfl w) (hN _ _ _ hq)
  · cases ha
set_option maxHeartbeats 4000000 in
theorem ok_i2s (hLk : m_Lk FL SL CL KI KL) (C : g_Cx g p s m args meth c cc o ii) {sp : Bool} {ix pc len : Nat} {an : List Nat} {kv : Int32} {kl : Int64} {ls : mL} {st : List Value} {h : mH} {sd : Option Prop} {q : List (Option Prop × mN)} {X : List mI → mL → List Value → mH → Prop} 
    (hchk : m_chk1 FL SL CL KI KL ii o P (sp, ix, pc, .i2s, len, an, kv, kl) = true) (hd : decode cc pc = .ok (.i2s, len)) (ha : m_act B (sp, ix, pc, .i2s, len, an, kv, kl) ls st h = some (sd, q)) (hsd : ∀ x, sd = some x → x) (hq : m_alls P r X q)
    (hN : ∀ ls st h, X r ls st h → g_K p l e R s m args below meth c Q g nL n0 s0 B (pc + len) ls st h) (hJ : ∀ (t : Nat) (e' : mI), P[t]? = some e' → ∀ ls st h, X (m_drop P t) ls st h → g_K p l e R s m args below meth c Q g nL n0 s0 B e'.2.2.1 ls st h) :
    g_K p l e R s m args below meth c Q g nL n0 s0 B pc ls st h := by
  obtain ⟨hx, hb, hown, hts, hK, hbase, hZ, hin, hAO⟩ := C
  have hl : len = 1 := by simpa [m_chk1] using hchk
  subst hl
  rw [m_act_eq] at ha
  simp only [m_act0] at ha
  split at ha
  · simp only [m_go, m_sd, Option.some.injEq, Prod.mk.injEq] at ha
    obtain ⟨rfl, rfl⟩ := ha
    exact k_go (fun _ _ _ _ _ _ w => lv_i2s hx hb hd rfl w) (hN _ _ _ hq)
  · cases ha
set_option maxHeartbeats 4000000 in
theorem ok_i2c (hLk : m_Lk FL SL CL KI KL) (C : g_Cx g p s m args meth c cc o ii) {sp : Bool} {ix pc len : Nat} {an : List Nat} {kv : Int32} {kl : Int64} {ls : mL} {st : List Value} {h : mH} {sd : Option Prop} {q : List (Option Prop × mN)} {X : List mI → mL → List Value → mH → Prop} 
    (hchk : m_chk1 FL SL CL KI KL ii o P (sp, ix, pc, .i2c, len, an, kv, kl) = true) (hd : decode cc pc = .ok (.i2c, len)) (ha : m_act B (sp, ix, pc, .i2c, len, an, kv, kl) ls st h = some (sd, q)) (hsd : ∀ x, sd = some x → x) (hq : m_alls P r X q)
    (hN : ∀ ls st h, X r ls st h → g_K p l e R s m args below meth c Q g nL n0 s0 B (pc + len) ls st h) (hJ : ∀ (t : Nat) (e' : mI), P[t]? = some e' → ∀ ls st h, X (m_drop P t) ls st h → g_K p l e R s m args below meth c Q g nL n0 s0 B e'.2.2.1 ls st h) :
    g_K p l e R s m args below meth c Q g nL n0 s0 B pc ls st h := by
  obtain ⟨hx, hb, hown, hts, hK, hbase, hZ, hin, hAO⟩ := C
  have hl : len = 1 := by simpa [m_chk1] using hchk
  subst hl
  rw [m_act_eq] at ha
  simp only [m_act0] at ha
  split at ha
  · simp only [m_go, m_sd, Option.some.injEq, Prod.mk.injEq] at ha
    obtain ⟨rfl, rfl⟩ := ha
    exact k_go (fun _ _ _ _ _ _ w => lv_i2c hx hb hd rfl w) (hN _ _ _ hq)
  · cases ha
set_option maxHeartbeats 4000000 in
theorem ok_dup_x1 (hLk : m_Lk FL SL CL KI KL) (C : g_Cx g p s m args meth c cc o ii) {sp : Bool} {ix pc len : Nat} {an : List Nat} {kv : Int32} {kl : Int64} {ls : mL} {st : List Value} {h : mH} {sd : Option Prop} {q : List (Option Prop × mN)} {X : List mI → mL → List Value → mH → Prop} 
    (hchk : m_chk1 FL SL CL KI KL ii o P (sp, ix, pc, .dup_x1, len, an, kv, kl) = true) (hd : decode cc pc = .ok (.dup_x1, len)) (ha : m_act B (sp, ix, pc, .dup_x1, len, an, kv, kl) ls st h = some (sd, q)) (hsd : ∀ x, sd = some x → x) (hq : m_alls P r X q)
    (hN : ∀ ls st h, X r ls st h → g_K p l e R s m args below meth c Q g nL n0 s0 B (pc + len) ls st h) (hJ : ∀ (t : Nat) (e' : mI), P[t]? = some e' → ∀ ls st h, X (m_drop P t) ls st h → g_K p l e R s m args below meth c Q g nL n0 s0 B e'.2.2.1 ls st h) :
    g_K p l e R s m args below meth c Q g nL n0 s0 B pc ls st h := by
  obtain ⟨hx, hb, hown, hts, hK, hbase, hZ, hin, hAO⟩ := C
  have hl : len = 1 := by simpa [m_chk1] using hchk
  subst hl
  rw [m_act_eq] at ha
  simp only [m_act0] at ha
  split at ha
  · simp only [m_go, m_sd, Option.some.injEq, Prod.mk.injEq] at ha
    obtain ⟨rfl, rfl⟩ := ha
    exact k_go (fun _ _ _ _ _ _ w => lv_dup_x1 hx hb hd rfl rfl w) (hN _ _ _ hq)
  · cases ha
set_option maxHeartbeats 4000000 in
theorem ok_dup2 (hLk : m_Lk FL SL CL KI KL) (C : g_Cx g p s m args meth c cc o ii) {sp : Bool} {ix pc len : Nat} {an : List Nat} {kv : Int32} {kl : Int64} {ls : mL} {st : List Value} {h : mH} {sd : Option Prop} {q : List (Option Prop × mN)} {X : List mI → mL → List Value → mH → Prop} 
    (hchk : m_chk1 FL SL CL KI KL ii o P (sp, ix, pc, .dup2, len, an, kv, kl) = true) (hd : decode cc pc = .ok (.dup2, len)) (ha : m_act B (sp, ix, pc, .dup2, len, an, kv, kl) ls st h = some (sd, q)) (hsd : ∀ x, sd = some x → x) (hq : m_alls P r X q)
    (hN : ∀ ls st h, X r ls st h → g_K p l e R s m args below meth c Q g nL n0 s0 B (pc + len) ls st h) (hJ : ∀ (t : Nat) (e' : mI), P[t]? = some e' → ∀ ls st h, X (m_drop P t) ls st h → g_K p l e R s m args below meth c Q g nL n0 s0 B e'.2.2.1 ls st h) :
    g_K p l e R s m args below meth c Q g nL n0 s0 B pc ls st h := by
  obtain ⟨hx, hb, hown, hts, hK, hbase, hZ, hin, hAO⟩ := C
  have hl : len = 1 := by simpa [m_chk1] using hchk
  subst hl
  rw [m_act_eq] at ha
  simp only [m_act0] at ha
  split at ha
  · simp only [m_go, m_sd, Option.some.injEq, Prod.mk.injEq] at ha
    obtain ⟨rfl, rfl⟩ := ha
    exact k_go (fun _ _ _ _ _ _ w => lv_dup2_11 hx hb hd rfl rfl w) (hN _ _ _ hq)
  · cases ha
set_option maxHeartbeats 4000000 in
theorem ok_pop (hLk : m_Lk FL SL CL KI KL) (C : g_Cx g p s m args meth c cc o ii) {sp : Bool} {ix pc len : Nat} {an : List Nat} {kv : Int32} {kl : Int64} {ls : mL} {st : List Value} {h : mH} {sd : Option Prop} {q : List (Option Prop × mN)} {X : List mI → mL → List Value → mH → Prop} 
    (hchk : m_chk1 FL SL CL KI KL ii o P (sp, ix, pc, .pop, len, an, kv, kl) = true) (hd : decode cc pc = .ok (.pop, len)) (ha : m_act B (sp, ix, pc, .pop, len, an, kv, kl) ls st h = some (sd, q)) (hsd : ∀ x, sd = some x → x) (hq : m_alls P r X q)
    (hN : ∀ ls st h, X r ls st h → g_K p l e R s m args below meth c Q g nL n0 s0 B (pc + len) ls st h) (hJ : ∀ (t : Nat) (e' : mI), P[t]? = some e' → ∀ ls st h, X (m_drop P t) ls st h → g_K p l e R s m args below meth c Q g nL n0 s0 B e'.2.2.1 ls st h) :
    g_K p l e R s m args below meth c Q g nL n0 s0 B pc ls st h := by
  obtain ⟨hx, hb, hown, hts, hK, hbase, hZ, hin, hAO⟩ := C
  have hl : len = 1 := by simpa [m_chk1] using hchk
  subst hl
  rw [m_act_eq] at ha
  simp only [m_act0] at ha
  split at ha
  · simp only [m_go, m_sd, Option.some.injEq, Prod.mk.injEq] at ha
    obtain ⟨rfl, rfl⟩ := ha
    exact k_go (fun _ _ _ _ _ _ w => lv_pop hx hb hd rfl w) (hN _ _ _ hq)
  · cases ha
set_option maxHeartbeats 4000000 in
theorem ok_dup (hLk : m_Lk FL SL CL KI KL) (C : g_Cx g p s m args meth c cc o ii) {sp : Bool} {ix pc len : Nat} {an : List Nat} {kv : Int32} {kl : Int64} {ls : mL} {st : List Value} {h : mH} {sd : Option Prop} {q : List (Option Prop × mN)} {X : List mI → mL → List Value → mH → Prop} 
    (hchk : m_chk1 FL SL CL KI KL ii o P (sp, ix, pc, .dup, len, an, kv, kl) = true) (hd : decode cc pc = .ok (.dup, len)) (ha : m_act B (sp, ix, pc, .dup, len, an, kv, kl) ls st h = some (sd, q)) (hsd : ∀ x, sd = some x → x) (hq : m_alls P r X q)
    (hN : ∀ ls st h, X r ls st h → g_K p l e R s m args below meth c Q g nL n0 s0 B (pc + len) ls st h) (hJ : ∀ (t : Nat) (e' : mI), P[t]? = some e' → ∀ ls st h, X (m_drop P t) ls st h → g_K p l e R s m args below meth c Q g nL n0 s0 B e'.2.2.1 ls st h) :
    g_K p l e R s m args below meth c Q g nL n0 s0 B pc ls st h := by
  obtain ⟨hx, hb, hown, hts, hK, hbase, hZ, hin, hAO⟩ := C
  have hl : len = 1 := by simpa [m_chk1] using hchk
  subst hl
  rw [m_act_eq] at ha
  simp only [m_act0] at ha
  split at ha
  · simp only [m_go, Option.some.injEq, Prod.mk.injEq] at ha
    obtain ⟨rfl, rfl⟩ := ha
    exact k_go (fun _ _ _ _ _ _ w => lv_dup hx hb hd rfl w) (hN _ _ _ hq)
  · simp only [m_go, Option.some.injEq, Prod.mk.injEq] at ha
    obtain ⟨rfl, rfl⟩ := ha
    exact k_go (fun _ _ _ _ _ _ w => lv_dup hx hb hd rfl w) (hN _ _ _ hq)
  · cases ha
set_option maxHeartbeats 4000000 in
theorem ok_iconst (hLk : m_Lk FL SL CL KI KL) (C : g_Cx g p s m args meth c cc o ii) {sp : Bool} {ix pc len : Nat} {an : List Nat} {kv : Int32} {kl : Int64} {ls : mL} {st : List Value} {h : mH} {sd : Option Prop} {q : List (Option Prop × mN)} {X : List mI → mL → List Value → mH → Prop} {n : Int}
    (hchk : m_chk1 FL SL CL KI KL ii o P (sp, ix, pc, (.iconst n), len, an, kv, kl) = true) (hd : decode cc pc = .ok ((.iconst n), len)) (ha : m_act B (sp, ix, pc, (.iconst n), len, an, kv, kl) ls st h = some (sd, q)) (hsd : ∀ x, sd = some x → x) (hq : m_alls P r X q)
    (hN : ∀ ls st h, X r ls st h → g_K p l e R s m args below meth c Q g nL n0 s0 B (pc + len) ls st h) (hJ : ∀ (t : Nat) (e' : mI), P[t]? = some e' → ∀ ls st h, X (m_drop P t) ls st h → g_K p l e R s m args below meth c Q g nL n0 s0 B e'.2.2.1 ls st h) :
    g_K p l e R s m args below meth c Q g nL n0 s0 B pc ls st h := by
  obtain ⟨hx, hb, hown, hts, hK, hbase, hZ, hin, hAO⟩ := C
  have hl : len = 1 ∧ Int32.ofInt n = kv := by simpa [m_chk1] using hchk
  obtain ⟨rfl, hv⟩ := hl
  rw [m_act_eq] at ha
  simp only [m_act0, m_go, Option.some.injEq, Prod.mk.injEq] at ha
  obtain ⟨rfl, rfl⟩ := ha
  exact k_go (fun _ _ _ _ _ _ w => lv_iconst hx hb hd hv w) (hN _ _ _ hq)
set_option maxHeartbeats 4000000 in
theorem ok_bipush (hLk : m_Lk FL SL CL KI KL) (C : g_Cx g p s m args meth c cc o ii) {sp : Bool} {ix pc len : Nat} {an : List Nat} {kv : Int32} {kl : Int64} {ls : mL} {st : List Value} {h : mH} {sd : Option Prop} {q : List (Option Prop × mN)} {X : List mI → mL → List Value → mH → Prop} {n : Int}
    (hchk : m_chk1 FL SL CL KI KL ii o P (sp, ix, pc, (.bipush n), len, an, kv, kl) = true) (hd : decode cc pc = .ok ((.bipush n), len)) (ha : m_act B (sp, ix, pc, (.bipush n), len, an, kv, kl) ls st h = some (sd, q)) (hsd : ∀ x, sd = some x → x) (hq : m_alls P r X q)
    (hN : ∀ ls st h, X r ls st h → g_K p l e R s m args below meth c Q g nL n0 s0 B (pc + len) ls st h) (hJ : ∀ (t : Nat) (e' : mI), P[t]? = some e' → ∀ ls st h, X (m_drop P t) ls st h → g_K p l e R s m args below meth c Q g nL n0 s0 B e'.2.2.1 ls st h) :
    g_K p l e R s m args below meth c Q g nL n0 s0 B pc ls st h := by
  obtain ⟨hx, hb, hown, hts, hK, hbase, hZ, hin, hAO⟩ := C
  have hl : len = 2 ∧ (Int8.ofInt n).toInt32 = kv := by simpa [m_chk1] using hchk
  obtain ⟨rfl, hv⟩ := hl
  rw [m_act_eq] at ha
  simp only [m_act0, m_go, Option.some.injEq, Prod.mk.injEq] at ha
  obtain ⟨rfl, rfl⟩ := ha
  exact k_go (fun _ _ _ _ _ _ w => lv_bipush hx hb hd hv w) (hN _ _ _ hq)
set_option maxHeartbeats 4000000 in
theorem ok_sipush (hLk : m_Lk FL SL CL KI KL) (C : g_Cx g p s m args meth c cc o ii) {sp : Bool} {ix pc len : Nat} {an : List Nat} {kv : Int32} {kl : Int64} {ls : mL} {st : List Value} {h : mH} {sd : Option Prop} {q : List (Option Prop × mN)} {X : List mI → mL → List Value → mH → Prop} {n : Int}
    (hchk : m_chk1 FL SL CL KI KL ii o P (sp, ix, pc, (.sipush n), len, an, kv, kl) = true) (hd : decode cc pc = .ok ((.sipush n), len)) (ha : m_act B (sp, ix, pc, (.sipush n), len, an, kv, kl) ls st h = some (sd, q)) (hsd : ∀ x, sd = some x → x) (hq : m_alls P r X q)
    (hN : ∀ ls st h, X r ls st h → g_K p l e R s m args below meth c Q g nL n0 s0 B (pc + len) ls st h) (hJ : ∀ (t : Nat) (e' : mI), P[t]? = some e' → ∀ ls st h, X (m_drop P t) ls st h → g_K p l e R s m args below meth c Q g nL n0 s0 B e'.2.2.1 ls st h) :
    g_K p l e R s m args below meth c Q g nL n0 s0 B pc ls st h := by
  obtain ⟨hx, hb, hown, hts, hK, hbase, hZ, hin, hAO⟩ := C
  have hl : len = 3 ∧ (Int16.ofInt n).toInt32 = kv := by simpa [m_chk1] using hchk
  obtain ⟨rfl, hv⟩ := hl
  rw [m_act_eq] at ha
  simp only [m_act0, m_go, Option.some.injEq, Prod.mk.injEq] at ha
  obtain ⟨rfl, rfl⟩ := ha
  exact k_go (fun _ _ _ _ _ _ w => lv_sipush hx hb hd hv w) (hN _ _ _ hq)
set_option maxHeartbeats 4000000 in
theorem ok_lconst (hLk : m_Lk FL SL CL KI KL) (C : g_Cx g p s m args meth c cc o ii) {sp : Bool} {ix pc len : Nat} {an : List Nat} {kv : Int32} {kl : Int64} {ls : mL} {st : List Value} {h : mH} {sd : Option Prop} {q : List (Option Prop × mN)} {X : List mI → mL → List Value → mH → Prop} {n : Fin 2}
    (hchk : m_chk1 FL SL CL KI KL ii o P (sp, ix, pc, (.lconst n), len, an, kv, kl) = true) (hd : decode cc pc = .ok ((.lconst n), len)) (ha : m_act B (sp, ix, pc, (.lconst n), len, an, kv, kl) ls st h = some (sd, q)) (hsd : ∀ x, sd = some x → x) (hq : m_alls P r X q)
    (hN : ∀ ls st h, X r ls st h → g_K p l e R s m args below meth c Q g nL n0 s0 B (pc + len) ls st h) (hJ : ∀ (t : Nat) (e' : mI), P[t]? = some e' → ∀ ls st h, X (m_drop P t) ls st h → g_K p l e R s m args below meth c Q g nL n0 s0 B e'.2.2.1 ls st h) :
    g_K p l e R s m args below meth c Q g nL n0 s0 B pc ls st h := by
  obtain ⟨hx, hb, hown, hts, hK, hbase, hZ, hin, hAO⟩ := C
  have hl : len = 1 ∧ Int64.ofNat n.val = kl := by simpa [m_chk1] using hchk
  obtain ⟨rfl, hv⟩ := hl
  rw [m_act_eq] at ha
  simp only [m_act0, m_go, Option.some.injEq, Prod.mk.injEq] at ha
  obtain ⟨rfl, rfl⟩ := ha
  exact k_go (fun _ _ _ _ _ _ w => lv_lconst hx hb hd hv w) (hN _ _ _ hq)
set_option maxHeartbeats 4000000 in
theorem ok_ldc2_w (hLk : m_Lk FL SL CL KI KL) (C : g_Cx g p s m args meth c cc o ii) {sp : Bool} {ix pc len : Nat} {an : List Nat} {kv : Int32} {kl : Int64} {ls : mL} {st : List Value} {h : mH} {sd : Option Prop} {q : List (Option Prop × mN)} {X : List mI → mL → List Value → mH → Prop} {i : Nat}
    (hchk : m_chk1 FL SL CL KI KL ii o P (sp, ix, pc, (.ldc2_w i), len, an, kv, kl) = true) (hd : decode cc pc = .ok ((.ldc2_w i), len)) (ha : m_act B (sp, ix, pc, (.ldc2_w i), len, an, kv, kl) ls st h = some (sd, q)) (hsd : ∀ x, sd = some x → x) (hq : m_alls P r X q)
    (hN : ∀ ls st h, X r ls st h → g_K p l e R s m args below meth c Q g nL n0 s0 B (pc + len) ls st h) (hJ : ∀ (t : Nat) (e' : mI), P[t]? = some e' → ∀ ls st h, X (m_drop P t) ls st h → g_K p l e R s m args below meth c Q g nL n0 s0 B e'.2.2.1 ls st h) :
    g_K p l e R s m args below meth c Q g nL n0 s0 B pc ls st h := by
  obtain ⟨hx, hb, hown, hts, hK, hbase, hZ, hin, hAO⟩ := C
  have hl : len = 3 ∧ ∃ a b k, (a, b, k) ∈ KL ∧ (a = o ∧ b = i) ∧ k = kl := by simpa [m_chk1] using hchk
  obtain ⟨rfl, a, b, k, hm, ⟨rfl, rfl⟩, rfl⟩ := hl
  rw [m_act_eq] at ha
  simp only [m_act0, m_go, Option.some.injEq, Prod.mk.injEq] at ha
  obtain ⟨rfl, rfl⟩ := ha
  exact k_go (fun _ _ _ _ _ _ w => lv_ldc2 hx hb hown (hts _ (hLk.2.2.2.2.2.1 _ hm)) hd w) (hN _ _ _ hq)
set_option maxHeartbeats 4000000 in
theorem ok_ldc (hLk : m_Lk FL SL CL KI KL) (C : g_Cx g p s m args meth c cc o ii) {sp : Bool} {ix pc len : Nat} {an : List Nat} {kv : Int32} {kl : Int64} {ls : mL} {st : List Value} {h : mH} {sd : Option Prop} {q : List (Option Prop × mN)} {X : List mI → mL → List Value → mH → Prop} {i : Nat}
    (hchk : m_chk1 FL SL CL KI KL ii o P (sp, ix, pc, (.ldc i), len, an, kv, kl) = true) (hd : decode cc pc = .ok ((.ldc i), len)) (ha : m_act B (sp, ix, pc, (.ldc i), len, an, kv, kl) ls st h = some (sd, q)) (hsd : ∀ x, sd = some x → x) (hq : m_alls P r X q)
    (hN : ∀ ls st h, X r ls st h → g_K p l e R s m args below meth c Q g nL n0 s0 B (pc + len) ls st h) (hJ : ∀ (t : Nat) (e' : mI), P[t]? = some e' → ∀ ls st h, X (m_drop P t) ls st h → g_K p l e R s m args below meth c Q g nL n0 s0 B e'.2.2.1 ls st h) :
    g_K p l e R s m args below meth c Q g nL n0 s0 B pc ls st h := by
  obtain ⟨hx, hb, hown, hts, hK, hbase, hZ, hin, hAO⟩ := C
  rw [m_act_eq] at ha
  simp only [m_act0] at ha
  split at ha
  · have hl : len = 2 ∧ ∃ a b k, (a, b, k) ∈ KI ∧ (a = o ∧ b = i) ∧ k = kv := by simpa [m_chk1] using hchk
    obtain ⟨rfl, a, b, k, hm, ⟨rfl, rfl⟩, rfl⟩ := hl
    simp only [m_go, Option.some.injEq, Prod.mk.injEq] at ha
    obtain ⟨rfl, rfl⟩ := ha
    exact k_go (fun _ _ _ _ _ _ w => lv_ldc hx hb hown (hts _ (hLk.2.2.2.2.1 _ hm)) hd w) (hN _ _ _ hq)
  · rename_i a9
    have hl : len = 2 ∧ (a9 = 4 ∧ o = 6) ∧ i = 91 := by simpa [m_chk1] using hchk
    obtain ⟨rfl, ⟨rfl, rfl⟩, rfl⟩ := hl
    simp only [m_go, Option.some.injEq, Prod.mk.injEq] at ha
    obtain ⟨rfl, rfl⟩ := ha
    refine k_go (fun _ _ _ _ _ _ w => va_ldcS (q := g.2.2.2 4) (tx := "pvdr") hx hb hown hAO.2.2.2.1 hd ?_) (hN _ _ _ hq)
    have e9 : g_v g (.ref 4) = .ref (g.2.2.2 4) := by
      show Value.ref (g_ad g 4) = _
      rw [g_ad_lt (by decide)]
    rw [List.map_cons, e9] at w
    exact w
  · cases ha
set_option maxHeartbeats 4000000 in
theorem ok_ldc_w (hLk : m_Lk FL SL CL KI KL) (C : g_Cx g p s m args meth c cc o ii) {sp : Bool} {ix pc len : Nat} {an : List Nat} {kv : Int32} {kl : Int64} {ls : mL} {st : List Value} {h : mH} {sd : Option Prop} {q : List (Option Prop × mN)} {X : List mI → mL → List Value → mH → Prop} {i : Nat}
    (hchk : m_chk1 FL SL CL KI KL ii o P (sp, ix, pc, (.ldc_w i), len, an, kv, kl) = true) (hd : decode cc pc = .ok ((.ldc_w i), len)) (ha : m_act B (sp, ix, pc, (.ldc_w i), len, an, kv, kl) ls st h = some (sd, q)) (hsd : ∀ x, sd = some x → x) (hq : m_alls P r X q)
    (hN : ∀ ls st h, X r ls st h → g_K p l e R s m args below meth c Q g nL n0 s0 B (pc + len) ls st h) (hJ : ∀ (t : Nat) (e' : mI), P[t]? = some e' → ∀ ls st h, X (m_drop P t) ls st h → g_K p l e R s m args below meth c Q g nL n0 s0 B e'.2.2.1 ls st h) :
    g_K p l e R s m args below meth c Q g nL n0 s0 B pc ls st h := by
  obtain ⟨hx, hb, hown, hts, hK, hbase, hZ, hin, hAO⟩ := C
  have hl : len = 3 ∧ ∃ a b k, (a, b, k) ∈ KI ∧ (a = o ∧ b = i) ∧ k = kv := by simpa [m_chk1] using hchk
  obtain ⟨rfl, a, b, k, hm, ⟨rfl, rfl⟩, rfl⟩ := hl
  rw [m_act_eq] at ha
  simp only [m_act0, m_go, Option.some.injEq, Prod.mk.injEq] at ha
  obtain ⟨rfl, rfl⟩ := ha
  exact k_go (fun _ _ _ _ _ _ w => lv_ldcw hx hb hown (hts _ (hLk.2.2.2.2.1 _ hm)) hd w) (hN _ _ _ hq)
set_option maxHeartbeats 4000000 in
theorem ok_iload (hLk : m_Lk FL SL CL KI KL) (C : g_Cx g p s m args meth c cc o ii) {sp : Bool} {ix pc len : Nat} {an : List Nat} {kv : Int32} {kl : Int64} {ls : mL} {st : List Value} {h : mH} {sd : Option Prop} {q : List (Option Prop × mN)} {X : List mI → mL → List Value → mH → Prop} {i : Nat}
    (hchk : m_chk1 FL SL CL KI KL ii o P (sp, ix, pc, (.iload i), len, an, kv, kl) = true) (hd : decode cc pc = .ok ((.iload i), len)) (ha : m_act B (sp, ix, pc, (.iload i), len, an, kv, kl) ls st h = some (sd, q)) (hsd : ∀ x, sd = some x → x) (hq : m_alls P r X q)
    (hN : ∀ ls st h, X r ls st h → g_K p l e R s m args below meth c Q g nL n0 s0 B (pc + len) ls st h) (hJ : ∀ (t : Nat) (e' : mI), P[t]? = some e' → ∀ ls st h, X (m_drop P t) ls st h → g_K p l e R s m args below meth c Q g nL n0 s0 B e'.2.2.1 ls st h) :
    g_K p l e R s m args below meth c Q g nL n0 s0 B pc ls st h := by
  obtain ⟨hx, hb, hown, hts, hK, hbase, hZ, hin, hAO⟩ := C
  have hl : len = 2 := by simpa [m_chk1] using hchk
  subst hl
  rw [m_act_eq] at ha
  simp only [m_act0, m_ldi] at ha
  obtain ⟨v, hv, ha⟩ := m_ld_spec _ _ _ _ ha
  split at ha
  · simp only [m_go, Option.some.injEq, Prod.mk.injEq] at ha
    obtain ⟨rfl, rfl⟩ := ha
    exact k_go (fun _ _ _ _ _ I w => lv_iload hx hb hd (I.2.1.2.2.2 _ _ hv) w) (hN _ _ _ hq)
  · cases ha
set_option maxHeartbeats 4000000 in
theorem ok_iload_n (hLk : m_Lk FL SL CL KI KL) (C : g_Cx g p s m args meth c cc o ii) {sp : Bool} {ix pc len : Nat} {an : List Nat} {kv : Int32} {kl : Int64} {ls : mL} {st : List Value} {h : mH} {sd : Option Prop} {q : List (Option Prop × mN)} {X : List mI → mL → List Value → mH → Prop} {i : Fin 4}
    (hchk : m_chk1 FL SL CL KI KL ii o P (sp, ix, pc, (.iload_n i), len, an, kv, kl) = true) (hd : decode cc pc = .ok ((.iload_n i), len)) (ha : m_act B (sp, ix, pc, (.iload_n i), len, an, kv, kl) ls st h = some (sd, q)) (hsd : ∀ x, sd = some x → x) (hq : m_alls P r X q)
    (hN : ∀ ls st h, X r ls st h → g_K p l e R s m args below meth c Q g nL n0 s0 B (pc + len) ls st h) (hJ : ∀ (t : Nat) (e' : mI), P[t]? = some e' → ∀ ls st h, X (m_drop P t) ls st h → g_K p l e R s m args below meth c Q g nL n0 s0 B e'.2.2.1 ls st h) :
    g_K p l e R s m args below meth c Q g nL n0 s0 B pc ls st h := by
  obtain ⟨hx, hb, hown, hts, hK, hbase, hZ, hin, hAO⟩ := C
  have hl : len = 1 := by simpa [m_chk1] using hchk
  subst hl
  rw [m_act_eq] at ha
  simp only [m_act0, m_ldi] at ha
  obtain ⟨v, hv, ha⟩ := m_ld_spec _ _ _ _ ha
  split at ha
  · simp only [m_go, Option.some.injEq, Prod.mk.injEq] at ha
    obtain ⟨rfl, rfl⟩ := ha
    exact k_go (fun _ _ _ _ _ I w => lv_iload_n hx hb hd rfl (I.2.1.2.2.2 _ _ hv) w) (hN _ _ _ hq)
  · cases ha
set_option maxHeartbeats 4000000 in
theorem ok_lload (hLk : m_Lk FL SL CL KI KL) (C : g_Cx g p s m args meth c cc o ii) {sp : Bool} {ix pc len : Nat} {an : List Nat} {kv : Int32} {kl : Int64} {ls : mL} {st : List Value} {h : mH} {sd : Option Prop} {q : List (Option Prop × mN)} {X : List mI → mL → List Value → mH → Prop} {i : Nat}
    (hchk : m_chk1 FL SL CL KI KL ii o P (sp, ix, pc, (.lload i), len, an, kv, kl) = true) (hd : decode cc pc = .ok ((.lload i), len)) (ha : m_act B (sp, ix, pc, (.lload i), len, an, kv, kl) ls st h = some (sd, q)) (hsd : ∀ x, sd = some x → x) (hq : m_alls P r X q)
    (hN : ∀ ls st h, X r ls st h → g_K p l e R s m args below meth c Q g nL n0 s0 B (pc + len) ls st h) (hJ : ∀ (t : Nat) (e' : mI), P[t]? = some e' → ∀ ls st h, X (m_drop P t) ls st h → g_K p l e R s m args below meth c Q g nL n0 s0 B e'.2.2.1 ls st h) :
    g_K p l e R s m args below meth c Q g nL n0 s0 B pc ls st h := by
  obtain ⟨hx, hb, hown, hts, hK, hbase, hZ, hin, hAO⟩ := C
  have hl : len = 2 := by simpa [m_chk1] using hchk
  subst hl
  rw [m_act_eq] at ha
  simp only [m_act0, m_ldl] at ha
  obtain ⟨v, hv, ha⟩ := m_ld_spec _ _ _ _ ha
  split at ha
  · simp only [m_go, Option.some.injEq, Prod.mk.injEq] at ha
    obtain ⟨rfl, rfl⟩ := ha
    exact k_go (fun _ _ _ _ _ I w => lv_lload hx hb hd (I.2.1.2.2.2 _ _ hv) w) (hN _ _ _ hq)
  · cases ha
set_option maxHeartbeats 4000000 in
theorem ok_lload_n (hLk : m_Lk FL SL CL KI KL) (C : g_Cx g p s m args meth c cc o ii) {sp : Bool} {ix pc len : Nat} {an : List Nat} {kv : Int32} {kl : Int64} {ls : mL} {st : List Value} {h : mH} {sd : Option Prop} {q : List (Option Prop × mN)} {X : List mI → mL → List Value → mH → Prop} {i : Fin 4}
    (hchk : m_chk1 FL SL CL KI KL ii o P (sp, ix, pc, (.lload_n i), len, an, kv, kl) = true) (hd : decode cc pc = .ok ((.lload_n i), len)) (ha : m_act B (sp, ix, pc, (.lload_n i), len, an, kv, kl) ls st h = some (sd, q)) (hsd : ∀ x, sd = some x → x) (hq : m_alls P r X q)
    (hN : ∀ ls st h, X r ls st h → g_K p l e R s m args below meth c Q g nL n0 s0 B (pc + len) ls st h) (hJ : ∀ (t : Nat) (e' : mI), P[t]? = some e' → ∀ ls st h, X (m_drop P t) ls st h → g_K p l e R s m args below meth c Q g nL n0 s0 B e'.2.2.1 ls st h) :
    g_K p l e R s m args below meth c Q g nL n0 s0 B pc ls st h := by
  obtain ⟨hx, hb, hown, hts, hK, hbase, hZ, hin, hAO⟩ := C
  have hl : len = 1 := by simpa [m_chk1] using hchk
  subst hl
  rw [m_act_eq] at ha
  simp only [m_act0, m_ldl] at ha
  obtain ⟨v, hv, ha⟩ := m_ld_spec _ _ _ _ ha
  split at ha
  · simp only [m_go, Option.some.injEq, Prod.mk.injEq] at ha
    obtain ⟨rfl, rfl⟩ := ha
    exact k_go (fun _ _ _ _ _ I w => lv_lload_n hx hb hd rfl (I.2.1.2.2.2 _ _ hv) w) (hN _ _ _ hq)
  · cases ha
set_option maxHeartbeats 4000000 in
theorem ok_aload (hLk : m_Lk FL SL CL KI KL) (C : g_Cx g p s m args meth c cc o ii) {sp : Bool} {ix pc len : Nat} {an : List Nat} {kv : Int32} {kl : Int64} {ls : mL} {st : List Value} {h : mH} {sd : Option Prop} {q : List (Option Prop × mN)} {X : List mI → mL → List Value → mH → Prop} {i : Nat}
    (hchk : m_chk1 FL SL CL KI KL ii o P (sp, ix, pc, (.aload i), len, an, kv, kl) = true) (hd : decode cc pc = .ok ((.aload i), len)) (ha : m_act B (sp, ix, pc, (.aload i), len, an, kv, kl) ls st h = some (sd, q)) (hsd : ∀ x, sd = some x → x) (hq : m_alls P r X q)
    (hN : ∀ ls st h, X r ls st h → g_K p l e R s m args below meth c Q g nL n0 s0 B (pc + len) ls st h) (hJ : ∀ (t : Nat) (e' : mI), P[t]? = some e' → ∀ ls st h, X (m_drop P t) ls st h → g_K p l e R s m args below meth c Q g nL n0 s0 B e'.2.2.1 ls st h) :
    g_K p l e R s m args below meth c Q g nL n0 s0 B pc ls st h := by
  obtain ⟨hx, hb, hown, hts, hK, hbase, hZ, hin, hAO⟩ := C
  have hl : len = 2 := by simpa [m_chk1] using hchk
  subst hl
  rw [m_act_eq] at ha
  simp only [m_act0, m_lda] at ha
  obtain ⟨v, hv, ha⟩ := m_ld_spec _ _ _ _ ha
  split at ha
  · simp only [m_go, Option.some.injEq, Prod.mk.injEq] at ha
    obtain ⟨rfl, rfl⟩ := ha
    exact k_go (fun _ _ _ _ _ I w => lv_aload hx hb hd (I.2.1.2.2.2 _ _ hv) w) (hN _ _ _ hq)
  · cases ha
set_option maxHeartbeats 4000000 in
theorem ok_aload_n (hLk : m_Lk FL SL CL KI KL) (C : g_Cx g p s m args meth c cc o ii) {sp : Bool} {ix pc len : Nat} {an : List Nat} {kv : Int32} {kl : Int64} {ls : mL} {st : List Value} {h : mH} {sd : Option Prop} {q : List (Option Prop × mN)} {X : List mI → mL → List Value → mH → Prop} {i : Fin 4}
    (hchk : m_chk1 FL SL CL KI KL ii o P (sp, ix, pc, (.aload_n i), len, an, kv, kl) = true) (hd : decode cc pc = .ok ((.aload_n i), len)) (ha : m_act B (sp, ix, pc, (.aload_n i), len, an, kv, kl) ls st h = some (sd, q)) (hsd : ∀ x, sd = some x → x) (hq : m_alls P r X q)
    (hN : ∀ ls st h, X r ls st h → g_K p l e R s m args below meth c Q g nL n0 s0 B (pc + len) ls st h) (hJ : ∀ (t : Nat) (e' : mI), P[t]? = some e' → ∀ ls st h, X (m_drop P t) ls st h → g_K p l e R s m args below meth c Q g nL n0 s0 B e'.2.2.1 ls st h) :
    g_K p l e R s m args below meth c Q g nL n0 s0 B pc ls st h := by
  obtain ⟨hx, hb, hown, hts, hK, hbase, hZ, hin, hAO⟩ := C
  have hl : len = 1 := by simpa [m_chk1] using hchk
  subst hl
  rw [m_act_eq] at ha
  simp only [m_act0, m_lda] at ha
  obtain ⟨v, hv, ha⟩ := m_ld_spec _ _ _ _ ha
  split at ha
  · simp only [m_go, Option.some.injEq, Prod.mk.injEq] at ha
    obtain ⟨rfl, rfl⟩ := ha
    exact k_go (fun _ _ _ _ _ I w => lv_aload_n hx hb hd rfl (I.2.1.2.2.2 _ _ hv) w) (hN _ _ _ hq)
  · cases ha
set_option maxHeartbeats 4000000 in
theorem ok_istore (hLk : m_Lk FL SL CL KI KL) (C : g_Cx g p s m args meth c cc o ii) {sp : Bool} {ix pc len : Nat} {an : List Nat} {kv : Int32} {kl : Int64} {ls : mL} {st : List Value} {h : mH} {sd : Option Prop} {q : List (Option Prop × mN)} {X : List mI → mL → List Value → mH → Prop} {i : Nat}
    (hchk : m_chk1 FL SL CL KI KL ii o P (sp, ix, pc, (.istore i), len, an, kv, kl) = true) (hd : decode cc pc = .ok ((.istore i), len)) (ha : m_act B (sp, ix, pc, (.istore i), len, an, kv, kl) ls st h = some (sd, q)) (hsd : ∀ x, sd = some x → x) (hq : m_alls P r X q)
    (hN : ∀ ls st h, X r ls st h → g_K p l e R s m args below meth c Q g nL n0 s0 B (pc + len) ls st h) (hJ : ∀ (t : Nat) (e' : mI), P[t]? = some e' → ∀ ls st h, X (m_drop P t) ls st h → g_K p l e R s m args below meth c Q g nL n0 s0 B e'.2.2.1 ls st h) :
    g_K p l e R s m args below meth c Q g nL n0 s0 B pc ls st h := by
  obtain ⟨hx, hb, hown, hts, hK, hbase, hZ, hin, hAO⟩ := C
  have hl : len = 2 := by simpa [m_chk1] using hchk
  subst hl
  rw [m_act_eq] at ha
  simp only [m_act0, m_sti] at ha
  split at ha
  · obtain ⟨ls', ha, hlen, hi, hs⟩ := m_st_spec _ _ _ _ _ ha
    simp only [m_go, Option.some.injEq, Prod.mk.injEq] at ha
    obtain ⟨rfl, rfl⟩ := ha
    exact k_st hlen hs (fun _ _ _ _ _ I w => lv_istore hx hb hd I.2.1.has (I.2.1.1 ▸ hi) rfl w) (hN _ _ _ hq)
  · cases ha
set_option maxHeartbeats 4000000 in
theorem ok_istore_n (hLk : m_Lk FL SL CL KI KL) (C : g_Cx g p s m args meth c cc o ii) {sp : Bool} {ix pc len : Nat} {an : List Nat} {kv : Int32} {kl : Int64} {ls : mL} {st : List Value} {h : mH} {sd : Option Prop} {q : List (Option Prop × mN)} {X : List mI → mL → List Value → mH → Prop} {i : Fin 4}
    (hchk : m_chk1 FL SL CL KI KL ii o P (sp, ix, pc, (.istore_n i), len, an, kv, kl) = true) (hd : decode cc pc = .ok ((.istore_n i), len)) (ha : m_act B (sp, ix, pc, (.istore_n i), len, an, kv, kl) ls st h = some (sd, q)) (hsd : ∀ x, sd = some x → x) (hq : m_alls P r X q)
    (hN : ∀ ls st h, X r ls st h → g_K p l e R s m args below meth c Q g nL n0 s0 B (pc + len) ls st h) (hJ : ∀ (t : Nat) (e' : mI), P[t]? = some e' → ∀ ls st h, X (m_drop P t) ls st h → g_K p l e R s m args below meth c Q g nL n0 s0 B e'.2.2.1 ls st h) :
    g_K p l e R s m args below meth c Q g nL n0 s0 B pc ls st h := by
  obtain ⟨hx, hb, hown, hts, hK, hbase, hZ, hin, hAO⟩ := C
  have hl : len = 1 := by simpa [m_chk1] using hchk
  subst hl
  rw [m_act_eq] at ha
  simp only [m_act0, m_sti] at ha
  split at ha
  · obtain ⟨ls', ha, hlen, hi, hs⟩ := m_st_spec _ _ _ _ _ ha
    simp only [m_go, Option.some.injEq, Prod.mk.injEq] at ha
    obtain ⟨rfl, rfl⟩ := ha
    exact k_st hlen hs (fun _ _ _ _ _ I w => lv_istore_n hx hb hd rfl I.2.1.has (I.2.1.1 ▸ hi) rfl w) (hN _ _ _ hq)
  · cases ha
set_option maxHeartbeats 4000000 in
theorem ok_astore (hLk : m_Lk FL SL CL KI KL) (C : g_Cx g p s m args meth c cc o ii) {sp : Bool} {ix pc len : Nat} {an : List Nat} {kv : Int32} {kl : Int64} {ls : mL} {st : List Value} {h : mH} {sd : Option Prop} {q : List (Option Prop × mN)} {X : List mI → mL → List Value → mH → Prop} {i : Nat}
    (hchk : m_chk1 FL SL CL KI KL ii o P (sp, ix, pc, (.astore i), len, an, kv, kl) = true) (hd : decode cc pc = .ok ((.astore i), len)) (ha : m_act B (sp, ix, pc, (.astore i), len, an, kv, kl) ls st h = some (sd, q)) (hsd : ∀ x, sd = some x → x) (hq : m_alls P r X q)
    (hN : ∀ ls st h, X r ls st h → g_K p l e R s m args below meth c Q g nL n0 s0 B (pc + len) ls st h) (hJ : ∀ (t : Nat) (e' : mI), P[t]? = some e' → ∀ ls st h, X (m_drop P t) ls st h → g_K p l e R s m args below meth c Q g nL n0 s0 B e'.2.2.1 ls st h) :
    g_K p l e R s m args below meth c Q g nL n0 s0 B pc ls st h := by
  obtain ⟨hx, hb, hown, hts, hK, hbase, hZ, hin, hAO⟩ := C
  have hl : len = 2 := by simpa [m_chk1] using hchk
  subst hl
  rw [m_act_eq] at ha
  simp only [m_act0, m_sta] at ha
  split at ha
  · obtain ⟨ls', ha, hlen, hi, hs⟩ := m_st_spec _ _ _ _ _ ha
    simp only [m_go, Option.some.injEq, Prod.mk.injEq] at ha
    obtain ⟨rfl, rfl⟩ := ha
    exact k_st hlen hs (fun _ _ _ _ _ I w => lv_astore hx hb hd I.2.1.has (I.2.1.1 ▸ hi) rfl w) (hN _ _ _ hq)
  · cases ha
set_option maxHeartbeats 4000000 in
theorem ok_astore_n (hLk : m_Lk FL SL CL KI KL) (C : g_Cx g p s m args meth c cc o ii) {sp : Bool} {ix pc len : Nat} {an : List Nat} {kv : Int32} {kl : Int64} {ls : mL} {st : List Value} {h : mH} {sd : Option Prop} {q : List (Option Prop × mN)} {X : List mI → mL → List Value → mH → Prop} {i : Fin 4}
    (hchk : m_chk1 FL SL CL KI KL ii o P (sp, ix, pc, (.astore_n i), len, an, kv, kl) = true) (hd : decode cc pc = .ok ((.astore_n i), len)) (ha : m_act B (sp, ix, pc, (.astore_n i), len, an, kv, kl) ls st h = some (sd, q)) (hsd : ∀ x, sd = some x → x) (hq : m_alls P r X q)
    (hN : ∀ ls st h, X r ls st h → g_K p l e R s m args below meth c Q g nL n0 s0 B (pc + len) ls st h) (hJ : ∀ (t : Nat) (e' : mI), P[t]? = some e' → ∀ ls st h, X (m_drop P t) ls st h → g_K p l e R s m args below meth c Q g nL n0 s0 B e'.2.2.1 ls st h) :
    g_K p l e R s m args below meth c Q g nL n0 s0 B pc ls st h := by
  obtain ⟨hx, hb, hown, hts, hK, hbase, hZ, hin, hAO⟩ := C
  have hl : len = 1 := by simpa [m_chk1] using hchk
  subst hl
  rw [m_act_eq] at ha
  simp only [m_act0, m_sta] at ha
  split at ha
  · obtain ⟨ls', ha, hlen, hi, hs⟩ := m_st_spec _ _ _ _ _ ha
    simp only [m_go, Option.some.injEq, Prod.mk.injEq] at ha
    obtain ⟨rfl, rfl⟩ := ha
    exact k_st hlen hs (fun _ _ _ _ _ I w => lv_astore_n hx hb hd rfl I.2.1.has (I.2.1.1 ▸ hi) rfl w) (hN _ _ _ hq)
  · cases ha
set_option maxHeartbeats 4000000 in
theorem ok_lstore (hLk : m_Lk FL SL CL KI KL) (C : g_Cx g p s m args meth c cc o ii) {sp : Bool} {ix pc len : Nat} {an : List Nat} {kv : Int32} {kl : Int64} {ls : mL} {st : List Value} {h : mH} {sd : Option Prop} {q : List (Option Prop × mN)} {X : List mI → mL → List Value → mH → Prop} {i : Nat}
    (hchk : m_chk1 FL SL CL KI KL ii o P (sp, ix, pc, (.lstore i), len, an, kv, kl) = true) (hd : decode cc pc = .ok ((.lstore i), len)) (ha : m_act B (sp, ix, pc, (.lstore i), len, an, kv, kl) ls st h = some (sd, q)) (hsd : ∀ x, sd = some x → x) (hq : m_alls P r X q)
    (hN : ∀ ls st h, X r ls st h → g_K p l e R s m args below meth c Q g nL n0 s0 B (pc + len) ls st h) (hJ : ∀ (t : Nat) (e' : mI), P[t]? = some e' → ∀ ls st h, X (m_drop P t) ls st h → g_K p l e R s m args below meth c Q g nL n0 s0 B e'.2.2.1 ls st h) :
    g_K p l e R s m args below meth c Q g nL n0 s0 B pc ls st h := by
  obtain ⟨hx, hb, hown, hts, hK, hbase, hZ, hin, hAO⟩ := C
  have hl : len = 2 := by simpa [m_chk1] using hchk
  subst hl
  rw [m_act_eq] at ha
  simp only [m_act0, m_stl] at ha
  split at ha
  · obtain ⟨ls', ha, hlen, hi, hs⟩ := m_st2_spec _ _ _ _ _ ha
    simp only [m_go, Option.some.injEq, Prod.mk.injEq] at ha
    obtain ⟨rfl, rfl⟩ := ha
    exact k_st2 hlen hs (fun _ _ _ _ _ I w => lv_lstore hx hb hd I.2.1.has (I.2.1.1 ▸ hi) rfl w) (hN _ _ _ hq)
  · cases ha
set_option maxHeartbeats 4000000 in
theorem ok_lstore_n (hLk : m_Lk FL SL CL KI KL) (C : g_Cx g p s m args meth c cc o ii) {sp : Bool} {ix pc len : Nat} {an : List Nat} {kv : Int32} {kl : Int64} {ls : mL} {st : List Value} {h : mH} {sd : Option Prop} {q : List (Option Prop × mN)} {X : List mI → mL → List Value → mH → Prop} {i : Fin 4}
    (hchk : m_chk1 FL SL CL KI KL ii o P (sp, ix, pc, (.lstore_n i), len, an, kv, kl) = true) (hd : decode cc pc = .ok ((.lstore_n i), len)) (ha : m_act B (sp, ix, pc, (.lstore_n i), len, an, kv, kl) ls st h = some (sd, q)) (hsd : ∀ x, sd = some x → x) (hq : m_alls P r X q)
    (hN : ∀ ls st h, X r ls st h → g_K p l e R s m args below meth c Q g nL n0 s0 B (pc + len) ls st h) (hJ : ∀ (t : Nat) (e' : mI), P[t]? = some e' → ∀ ls st h, X (m_drop P t) ls st h → g_K p l e R s m args below meth c Q g nL n0 s0 B e'.2.2.1 ls st h) :
    g_K p l e R s m args below meth c Q g nL n0 s0 B pc ls st h := by
  obtain ⟨hx, hb, hown, hts, hK, hbase, hZ, hin, hAO⟩ := C
  have hl : len = 1 := by simpa [m_chk1] using hchk
  subst hl
  rw [m_act_eq] at ha
  simp only [m_act0, m_stl] at ha
  split at ha
  · obtain ⟨ls', ha, hlen, hi, hs⟩ := m_st2_spec _ _ _ _ _ ha
    simp only [m_go, Option.some.injEq, Prod.mk.injEq] at ha
    obtain ⟨rfl, rfl⟩ := ha
    exact k_st2 hlen hs (fun _ _ _ _ _ I w => lv_lstore_n hx hb hd rfl I.2.1.has (I.2.1.1 ▸ hi) rfl w) (hN _ _ _ hq)
  · cases ha
set_option maxHeartbeats 4000000 in
theorem ok_iinc (hLk : m_Lk FL SL CL KI KL) (C : g_Cx g p s m args meth c cc o ii) {sp : Bool} {ix pc len : Nat} {an : List Nat} {kv : Int32} {kl : Int64} {ls : mL} {st : List Value} {h : mH} {sd : Option Prop} {q : List (Option Prop × mN)} {X : List mI → mL → List Value → mH → Prop} {i : Nat} {n : Int}
    (hchk : m_chk1 FL SL CL KI KL ii o P (sp, ix, pc, (.iinc i n), len, an, kv, kl) = true) (hd : decode cc pc = .ok ((.iinc i n), len)) (ha : m_act B (sp, ix, pc, (.iinc i n), len, an, kv, kl) ls st h = some (sd, q)) (hsd : ∀ x, sd = some x → x) (hq : m_alls P r X q)
    (hN : ∀ ls st h, X r ls st h → g_K p l e R s m args below meth c Q g nL n0 s0 B (pc + len) ls st h) (hJ : ∀ (t : Nat) (e' : mI), P[t]? = some e' → ∀ ls st h, X (m_drop P t) ls st h → g_K p l e R s m args below meth c Q g nL n0 s0 B e'.2.2.1 ls st h) :
    g_K p l e R s m args below meth c Q g nL n0 s0 B pc ls st h := by
  obtain ⟨hx, hb, hown, hts, hK, hbase, hZ, hin, hAO⟩ := C
  have hl : len = 3 ∧ Int32.ofInt n = kv := by simpa [m_chk1] using hchk
  obtain ⟨rfl, hkv⟩ := hl
  rw [m_act_eq] at ha
  simp only [m_act0] at ha
  obtain ⟨v, hv, ha⟩ := m_ld_spec _ _ _ _ ha
  split at ha
  · rename_i x
    obtain ⟨ls', ha, hlen, hi, hs⟩ := m_st_spec _ _ _ _ _ ha
    simp only [m_go, Option.some.injEq, Prod.mk.injEq] at ha
    obtain ⟨rfl, rfl⟩ := ha
    refine k_st hlen hs (fun _ _ _ _ _ I w => ?_) (hN _ _ _ hq)
    have hm : (i, Value.int x) ∈ m_as g 0 ls := (m_as_mem g ls 0 _).mpr ⟨i, .int x, hv, by rw [show 0 + i = i by omega]; rfl⟩
    obtain ⟨kk, hkk⟩ := List.getElem?_of_mem hm
    exact lv_iinc hx hb hd I.2.1.has hkk (by rw [hkv]) (I.2.1.1 ▸ hi) rfl w
  · cases ha
set_option maxHeartbeats 4000000 in
theorem ok_goto (hLk : m_Lk FL SL CL KI KL) (C : g_Cx g p s m args meth c cc o ii) {sp : Bool} {ix pc len : Nat} {an : List Nat} {kv : Int32} {kl : Int64} {ls : mL} {st : List Value} {h : mH} {sd : Option Prop} {q : List (Option Prop × mN)} {X : List mI → mL → List Value → mH → Prop} {off : Int}
    (hchk : m_chk1 FL SL CL KI KL ii o P (sp, ix, pc, (.goto off), len, an, kv, kl) = true) (hd : decode cc pc = .ok ((.goto off), len)) (ha : m_act B (sp, ix, pc, (.goto off), len, an, kv, kl) ls st h = some (sd, q)) (hsd : ∀ x, sd = some x → x) (hq : m_alls P r X q)
    (hN : ∀ ls st h, X r ls st h → g_K p l e R s m args below meth c Q g nL n0 s0 B (pc + len) ls st h) (hJ : ∀ (t : Nat) (e' : mI), P[t]? = some e' → ∀ ls st h, X (m_drop P t) ls st h → g_K p l e R s m args below meth c Q g nL n0 s0 B e'.2.2.1 ls st h) :
    g_K p l e R s m args below meth c Q g nL n0 s0 B pc ls st h := by
  obtain ⟨hx, hb, hown, hts, hK, hbase, hZ, hin, hAO⟩ := C
  rw [m_act_eq] at ha
  simp only [m_act0] at ha
  split at ha
  · rename_i t
    have hl : len = 3 ∧ m_tgt P pc off t = true := by simpa [m_chk1] using hchk
    obtain ⟨rfl, htg⟩ := hl
    obtain ⟨e', he, hpc⟩ := m_tgt_spec htg
    simp only [Option.some.injEq, Prod.mk.injEq] at ha
    obtain ⟨rfl, rfl⟩ := ha
    exact k_go (fun _ _ _ _ _ _ w => lv_goto hx hb hd hpc w) (hJ _ _ he _ _ _ hq)
  · cases ha
set_option maxHeartbeats 4000000 in
theorem ok_ifCond (hLk : m_Lk FL SL CL KI KL) (C : g_Cx g p s m args meth c cc o ii) {sp : Bool} {ix pc len : Nat} {an : List Nat} {kv : Int32} {kl : Int64} {ls : mL} {st : List Value} {h : mH} {sd : Option Prop} {q : List (Option Prop × mN)} {X : List mI → mL → List Value → mH → Prop} {cn : Jvm.ClassFile.Cond} {off : Int}
    (hchk : m_chk1 FL SL CL KI KL ii o P (sp, ix, pc, (.ifCond cn off), len, an, kv, kl) = true) (hd : decode cc pc = .ok ((.ifCond cn off), len)) (ha : m_act B (sp, ix, pc, (.ifCond cn off), len, an, kv, kl) ls st h = some (sd, q)) (hsd : ∀ x, sd = some x → x) (hq : m_alls P r X q)
    (hN : ∀ ls st h, X r ls st h → g_K p l e R s m args below meth c Q g nL n0 s0 B (pc + len) ls st h) (hJ : ∀ (t : Nat) (e' : mI), P[t]? = some e' → ∀ ls st h, X (m_drop P t) ls st h → g_K p l e R s m args below meth c Q g nL n0 s0 B e'.2.2.1 ls st h) :
    g_K p l e R s m args below meth c Q g nL n0 s0 B pc ls st h := by
  obtain ⟨hx, hb, hown, hts, hK, hbase, hZ, hin, hAO⟩ := C
  rw [m_act_eq] at ha
  simp only [m_act0] at ha
  split at ha
  · rename_i t x s9
    have hl : len = 3 ∧ m_tgt P pc off t = true := by simpa [m_chk1] using hchk
    obtain ⟨rfl, htg⟩ := hl
    obtain ⟨e', he, hpc⟩ := m_tgt_spec htg
    cases cn <;> simp only [m_if, m_br, Option.some.injEq, Prod.mk.injEq] at ha <;> obtain ⟨rfl, rfl⟩ := ha
    · exact fun _ _ _ _ _ I => lv_if_eq hx hb hd hpc (fun q => hJ _ _ he _ _ _ (hq.1 q) _ _ _ _ _ I) (fun q => hN _ _ _ (hq.2 q) _ _ _ _ _ I)
    · exact fun _ _ _ _ _ I => lv_if_ne hx hb hd hpc (fun q => hJ _ _ he _ _ _ (hq.1 q) _ _ _ _ _ I) (fun q => hN _ _ _ (hq.2 q) _ _ _ _ _ I)
    · exact fun _ _ _ _ _ I => lv_if_lt hx hb hd hpc (fun q => hJ _ _ he _ _ _ (hq.1 q) _ _ _ _ _ I) (fun q => hN _ _ _ (hq.2 q) _ _ _ _ _ I)
    · exact fun _ _ _ _ _ I => lv_if_ge hx hb hd hpc (fun q => hJ _ _ he _ _ _ (hq.1 q) _ _ _ _ _ I) (fun q => hN _ _ _ (hq.2 q) _ _ _ _ _ I)
    · exact fun _ _ _ _ _ I => lv_if_gt hx hb hd hpc (fun q => hJ _ _ he _ _ _ (hq.1 q) _ _ _ _ _ I) (fun q => hN _ _ _ (hq.2 q) _ _ _ _ _ I)
    · exact fun _ _ _ _ _ I => lv_if_le hx hb hd hpc (fun q => hJ _ _ he _ _ _ (hq.1 q) _ _ _ _ _ I) (fun q => hN _ _ _ (hq.2 q) _ _ _ _ _ I)
  · cases ha
set_option maxHeartbeats 4000000 in
theorem ok_if_icmp (hLk : m_Lk FL SL CL KI KL) (C : g_Cx g p s m args meth c cc o ii) {sp : Bool} {ix pc len : Nat} {an : List Nat} {kv : Int32} {kl : Int64} {ls : mL} {st : List Value} {h : mH} {sd : Option Prop} {q : List (Option Prop × mN)} {X : List mI → mL → List Value → mH → Prop} {cn : Jvm.ClassFile.Cond} {off : Int}
    (hchk : m_chk1 FL SL CL KI KL ii o P (sp, ix, pc, (.if_icmp cn off), len, an, kv, kl) = true) (hd : decode cc pc = .ok ((.if_icmp cn off), len)) (ha : m_act B (sp, ix, pc, (.if_icmp cn off), len, an, kv, kl) ls st h = some (sd, q)) (hsd : ∀ x, sd = some x → x) (hq : m_alls P r X q)
    (hN : ∀ ls st h, X r ls st h → g_K p l e R s m args below meth c Q g nL n0 s0 B (pc + len) ls st h) (hJ : ∀ (t : Nat) (e' : mI), P[t]? = some e' → ∀ ls st h, X (m_drop P t) ls st h → g_K p l e R s m args below meth c Q g nL n0 s0 B e'.2.2.1 ls st h) :
    g_K p l e R s m args below meth c Q g nL n0 s0 B pc ls st h := by
  obtain ⟨hx, hb, hown, hts, hK, hbase, hZ, hin, hAO⟩ := C
  rw [m_act_eq] at ha
  simp only [m_act0] at ha
  split at ha
  · rename_i t y x s9
    have hl : len = 3 ∧ m_tgt P pc off t = true := by simpa [m_chk1] using hchk
    obtain ⟨rfl, htg⟩ := hl
    obtain ⟨e', he, hpc⟩ := m_tgt_spec htg
    cases cn <;> simp only [m_if, m_br, Option.some.injEq, Prod.mk.injEq] at ha <;> obtain ⟨rfl, rfl⟩ := ha
    · exact fun _ _ _ _ _ I => lv_icmp_eq hx hb hd hpc (fun q => hJ _ _ he _ _ _ (hq.1 q) _ _ _ _ _ I) (fun q => hN _ _ _ (hq.2 q) _ _ _ _ _ I)
    · exact fun _ _ _ _ _ I => lv_icmp_ne hx hb hd hpc (fun q => hJ _ _ he _ _ _ (hq.1 q) _ _ _ _ _ I) (fun q => hN _ _ _ (hq.2 q) _ _ _ _ _ I)
    · exact fun _ _ _ _ _ I => lv_icmp_lt hx hb hd hpc (fun q => hJ _ _ he _ _ _ (hq.1 q) _ _ _ _ _ I) (fun q => hN _ _ _ (hq.2 q) _ _ _ _ _ I)
    · exact fun _ _ _ _ _ I => lv_icmp_ge hx hb hd hpc (fun q => hJ _ _ he _ _ _ (hq.1 q) _ _ _ _ _ I) (fun q => hN _ _ _ (hq.2 q) _ _ _ _ _ I)
    · exact fun _ _ _ _ _ I => lv_icmp_gt hx hb hd hpc (fun q => hJ _ _ he _ _ _ (hq.1 q) _ _ _ _ _ I) (fun q => hN _ _ _ (hq.2 q) _ _ _ _ _ I)
    · exact fun _ _ _ _ _ I => lv_icmp_le hx hb hd hpc (fun q => hJ _ _ he _ _ _ (hq.1 q) _ _ _ _ _ I) (fun q => hN _ _ _ (hq.2 q) _ _ _ _ _ I)
  · cases ha
theorem g_get {h : mH} {H : Heap} {k : Nat} {c0 : mS} (hR : g_R g s h H) (hc : h.1[k]? = some c0) (ht : c0.1 < 200) : (g_W g h)[k - 5]? = some (g_ad g k, g_e g h k c0) := by
  have h5 := g_new hR.2 hc ht
  rw [g_ad_ge h5]
  exact g_W_get h5 hc
set_option maxHeartbeats 4000000 in
theorem ok_iaload (hLk : m_Lk FL SL CL KI KL) (C : g_Cx g p s m args meth c cc o ii) {sp : Bool} {ix pc len : Nat} {an : List Nat} {kv : Int32} {kl : Int64} {ls : mL} {st : List Value} {h : mH} {sd : Option Prop} {q : List (Option Prop × mN)} {X : List mI → mL → List Value → mH → Prop} 
    (hchk : m_chk1 FL SL CL KI KL ii o P (sp, ix, pc, .iaload, len, an, kv, kl) = true) (hd : decode cc pc = .ok (.iaload, len)) (ha : m_act B (sp, ix, pc, .iaload, len, an, kv, kl) ls st h = some (sd, q)) (hsd : ∀ x, sd = some x → x) (hq : m_alls P r X q)
    (hN : ∀ ls st h, X r ls st h → g_K p l e R s m args below meth c Q g nL n0 s0 B (pc + len) ls st h) (hJ : ∀ (t : Nat) (e' : mI), P[t]? = some e' → ∀ ls st h, X (m_drop P t) ls st h → g_K p l e R s m args below meth c Q g nL n0 s0 B e'.2.2.1 ls st h) :
    g_K p l e R s m args below meth c Q g nL n0 s0 B pc ls st h := by
  obtain ⟨hx, hb, hown, hts, hK, hbase, hZ, hin, hAO⟩ := C
  have hl : len = 1 := by simpa [m_chk1] using hchk
  subst hl
  rw [m_act_eq] at ha
  simp only [m_act0] at ha
  split at ha
  · rename_i i k s9
    obtain ⟨t, n, rf, htt, hc, ha⟩ := m_arr2_some ha
    simp only [m_sd, Option.some.injEq, Prod.mk.injEq] at ha
    obtain ⟨rfl, rfl⟩ := ha
    have hin0 : vp_in i n := hsd _ rfl
    refine k_go (fun H locs cells slots la I w => ?_) (hN _ _ _ hq)
    rcases htt with rfl | rfl
    · have hw := g_get I.1 hc (show (100 : Nat) < 200 by decide)
      rw [g_e_i (Or.inl rfl)] at hw
      exact va_iald (t0 := 0) hx hb hK I.1.1 _ hw rfl hin0 hd w
    · have hk5 : k < 5 := by
        rcases Nat.lt_or_ge k 5 with q | q
        · exact q
        · have := (I.1.2.2.1 k _ hc).2.1 q
          simp at this
      obtain ⟨scr, h1, h2, h3, h4, h5⟩ := I.1.2.2.2.2 k n rf hc
      have hlt : i.toNatClampNeg < n := Nat.not_le.mp fun q => hin0 (Or.inr q)
      exact W.iald (v := .int (h.2.1 k i.toNatClampNeg)) (a := g_ad g k) hx hb (by rw [g_ad_lt hk5]; exact h1) h2 h3 (fun q9 => hin0 (q9.imp id (Nat.le_trans h4.1))) (h5 _ hlt) rfl rfl hd w
  · cases ha
set_option maxHeartbeats 4000000 in
theorem ok_baload (hLk : m_Lk FL SL CL KI KL) (C : g_Cx g p s m args meth c cc o ii) {sp : Bool} {ix pc len : Nat} {an : List Nat} {kv : Int32} {kl : Int64} {ls : mL} {st : List Value} {h : mH} {sd : Option Prop} {q : List (Option Prop × mN)} {X : List mI → mL → List Value → mH → Prop} 
    (hchk : m_chk1 FL SL CL KI KL ii o P (sp, ix, pc, .baload, len, an, kv, kl) = true) (hd : decode cc pc = .ok (.baload, len)) (ha : m_act B (sp, ix, pc, .baload, len, an, kv, kl) ls st h = some (sd, q)) (hsd : ∀ x, sd = some x → x) (hq : m_alls P r X q)
    (hN : ∀ ls st h, X r ls st h → g_K p l e R s m args below meth c Q g nL n0 s0 B (pc + len) ls st h) (hJ : ∀ (t : Nat) (e' : mI), P[t]? = some e' → ∀ ls st h, X (m_drop P t) ls st h → g_K p l e R s m args below meth c Q g nL n0 s0 B e'.2.2.1 ls st h) :
    g_K p l e R s m args below meth c Q g nL n0 s0 B pc ls st h := by
  obtain ⟨hx, hb, hown, hts, hK, hbase, hZ, hin, hAO⟩ := C
  have hl : len = 1 := by simpa [m_chk1] using hchk
  subst hl
  rw [m_act_eq] at ha
  simp only [m_act0] at ha
  split at ha
  · rename_i i k s9
    obtain ⟨n, rf, hc, ha⟩ := m_arr_some ha
    simp only [m_sd, Option.some.injEq, Prod.mk.injEq] at ha
    obtain ⟨rfl, rfl⟩ := ha
    have hin0 : vp_in i n := hsd _ rfl
    refine k_go (fun H locs cells slots la I w => ?_) (hN _ _ _ hq)
    have hw := g_get I.1 hc (show (101 : Nat) < 200 by decide)
    rw [g_e_i (Or.inr (Or.inl rfl))] at hw
    exact va_zald (t0 := 1) hx hb hK I.1.1 _ hw rfl hin0 hd w
  · cases ha
set_option maxHeartbeats 4000000 in
theorem ok_caload (hLk : m_Lk FL SL CL KI KL) (C : g_Cx g p s m args meth c cc o ii) {sp : Bool} {ix pc len : Nat} {an : List Nat} {kv : Int32} {kl : Int64} {ls : mL} {st : List Value} {h : mH} {sd : Option Prop} {q : List (Option Prop × mN)} {X : List mI → mL → List Value → mH → Prop} 
    (hchk : m_chk1 FL SL CL KI KL ii o P (sp, ix, pc, .caload, len, an, kv, kl) = true) (hd : decode cc pc = .ok (.caload, len)) (ha : m_act B (sp, ix, pc, .caload, len, an, kv, kl) ls st h = some (sd, q)) (hsd : ∀ x, sd = some x → x) (hq : m_alls P r X q)
    (hN : ∀ ls st h, X r ls st h → g_K p l e R s m args below meth c Q g nL n0 s0 B (pc + len) ls st h) (hJ : ∀ (t : Nat) (e' : mI), P[t]? = some e' → ∀ ls st h, X (m_drop P t) ls st h → g_K p l e R s m args below meth c Q g nL n0 s0 B e'.2.2.1 ls st h) :
    g_K p l e R s m args below meth c Q g nL n0 s0 B pc ls st h := by
  obtain ⟨hx, hb, hown, hts, hK, hbase, hZ, hin, hAO⟩ := C
  have hl : len = 1 := by simpa [m_chk1] using hchk
  subst hl
  rw [m_act_eq] at ha
  simp only [m_act0] at ha
  split at ha
  · rename_i i k s9
    obtain ⟨n, rf, hc, ha⟩ := m_arr_some ha
    simp only [m_sd, Option.some.injEq, Prod.mk.injEq] at ha
    obtain ⟨rfl, rfl⟩ := ha
    have hin0 : vp_in i n := hsd _ rfl
    refine k_go (fun H locs cells slots la I w => ?_) (hN _ _ _ hq)
    have hw := g_get I.1 hc (show (103 : Nat) < 200 by decide)
    rw [g_e_i (Or.inr (Or.inr rfl))] at hw
    exact va_cald (t0 := 3) hx hb hK I.1.1 _ hw rfl hin0 hd w
  · cases ha
set_option maxHeartbeats 4000000 in
theorem ok_laload (hLk : m_Lk FL SL CL KI KL) (C : g_Cx g p s m args meth c cc o ii) {sp : Bool} {ix pc len : Nat} {an : List Nat} {kv : Int32} {kl : Int64} {ls : mL} {st : List Value} {h : mH} {sd : Option Prop} {q : List (Option Prop × mN)} {X : List mI → mL → List Value → mH → Prop} 
    (hchk : m_chk1 FL SL CL KI KL ii o P (sp, ix, pc, .laload, len, an, kv, kl) = true) (hd : decode cc pc = .ok (.laload, len)) (ha : m_act B (sp, ix, pc, .laload, len, an, kv, kl) ls st h = some (sd, q)) (hsd : ∀ x, sd = some x → x) (hq : m_alls P r X q)
    (hN : ∀ ls st h, X r ls st h → g_K p l e R s m args below meth c Q g nL n0 s0 B (pc + len) ls st h) (hJ : ∀ (t : Nat) (e' : mI), P[t]? = some e' → ∀ ls st h, X (m_drop P t) ls st h → g_K p l e R s m args below meth c Q g nL n0 s0 B e'.2.2.1 ls st h) :
    g_K p l e R s m args below meth c Q g nL n0 s0 B pc ls st h := by
  obtain ⟨hx, hb, hown, hts, hK, hbase, hZ, hin, hAO⟩ := C
  have hl : len = 1 := by simpa [m_chk1] using hchk
  subst hl
  rw [m_act_eq] at ha
  simp only [m_act0] at ha
  split at ha
  · rename_i i k s9
    obtain ⟨n, rf, hc, ha⟩ := m_arr_some ha
    simp only [m_sd, Option.some.injEq, Prod.mk.injEq] at ha
    obtain ⟨rfl, rfl⟩ := ha
    have hin0 : vp_in i n := hsd _ rfl
    refine k_go (fun H locs cells slots la I w => ?_) (hN _ _ _ hq)
    have hw := g_get I.1 hc (show (102 : Nat) < 200 by decide)
    rw [g_e_l] at hw
    exact va_lald (t0 := 2) hx hb hK I.1.1 _ hw rfl hin0 hd w
  · cases ha
set_option maxHeartbeats 4000000 in
theorem ok_aaload (hLk : m_Lk FL SL CL KI KL) (C : g_Cx g p s m args meth c cc o ii) {sp : Bool} {ix pc len : Nat} {an : List Nat} {kv : Int32} {kl : Int64} {ls : mL} {st : List Value} {h : mH} {sd : Option Prop} {q : List (Option Prop × mN)} {X : List mI → mL → List Value → mH → Prop} 
    (hchk : m_chk1 FL SL CL KI KL ii o P (sp, ix, pc, .aaload, len, an, kv, kl) = true) (hd : decode cc pc = .ok (.aaload, len)) (ha : m_act B (sp, ix, pc, .aaload, len, an, kv, kl) ls st h = some (sd, q)) (hsd : ∀ x, sd = some x → x) (hq : m_alls P r X q)
    (hN : ∀ ls st h, X r ls st h → g_K p l e R s m args below meth c Q g nL n0 s0 B (pc + len) ls st h) (hJ : ∀ (t : Nat) (e' : mI), P[t]? = some e' → ∀ ls st h, X (m_drop P t) ls st h → g_K p l e R s m args below meth c Q g nL n0 s0 B e'.2.2.1 ls st h) :
    g_K p l e R s m args below meth c Q g nL n0 s0 B pc ls st h := by
  obtain ⟨hx, hb, hown, hts, hK, hbase, hZ, hin, hAO⟩ := C
  have hl : len = 1 := by simpa [m_chk1] using hchk
  subst hl
  rw [m_act_eq] at ha
  simp only [m_act0, m_aald, m_nth_eq] at ha
  split at ha
  · rename_i i k s9
    split at ha
    · rename_i t n rf hc
      split at ha
      · rename_i hb0
        rw [Bool.or_eq_true] at hb0
        have htt : t = 104 ∨ t = 105 := hb0.imp Nat.eq_of_beq_eq_true Nat.eq_of_beq_eq_true
        simp only [Option.some.injEq, Prod.mk.injEq] at ha
        obtain ⟨rfl, rfl⟩ := ha
        obtain ⟨hin0, hlt, hso⟩ := hsd _ rfl
        refine k_go (fun H locs cells slots la I w => ?_) (hN _ _ _ hq)
        have hw := g_get I.1 hc (show t < 200 by omega)
        rw [g_e_q htt] at hw
        obtain ⟨a, hae⟩ := Option.isSome_iff_exists.mp hso
        have hcell := I.1.1 _ _ hw
        have hcell' : H[g_ad g k]? = some (vp_cell (g.2.1 t) (n, .inr (.inr (.inr (.inr (fun i => g_r g (rf.getD i none))))))) := hcell
        rw [vp_cell_q] at hcell'
        have harr : s.isArrayOf (arrV (g.2.1 t) n (fun j => va_rf (g_r g (rf.getD j none)))) (if t = 104 then .array .int else .array .long) := by
          rcases htt with rfl | rfl
          · exact (hK.2 4 _ rfl).1 n _
          · exact (hK.2 5 _ rfl).1 n _
        have hlt2 : i.toNatClampNeg < n := Nat.not_le.mp fun q => hin0 (Or.inr q)
        refine W.aald (v := g_v g (.ref a)) hx hb hcell' harr (by split <;> rfl) (fun q => by cases q) (by show ¬ (i < 0 ∨ (arrV _ _ _).slots.size ≤ _); rw [arrV_size]; exact hin0) ?_ rfl rfl hd ?_
        · show (Array.ofFn (n := n) fun j => va_rf (g_r g (rf.getD j.val none)))[i.toNatClampNeg]? = _
          rw [Array.getElem?_ofFn, dif_pos hlt2]
          show some (va_rf (g_r g (rf.getD i.toNatClampNeg none))) = _
          rw [hae]
          rfl
        · rw [hae] at w
          exact w
      · cases ha
    · cases ha
  · cases ha
set_option maxHeartbeats 4000000 in
theorem ok_arraylength (hLk : m_Lk FL SL CL KI KL) (C : g_Cx g p s m args meth c cc o ii) {sp : Bool} {ix pc len : Nat} {an : List Nat} {kv : Int32} {kl : Int64} {ls : mL} {st : List Value} {h : mH} {sd : Option Prop} {q : List (Option Prop × mN)} {X : List mI → mL → List Value → mH → Prop} 
    (hchk : m_chk1 FL SL CL KI KL ii o P (sp, ix, pc, .arraylength, len, an, kv, kl) = true) (hd : decode cc pc = .ok (.arraylength, len)) (ha : m_act B (sp, ix, pc, .arraylength, len, an, kv, kl) ls st h = some (sd, q)) (hsd : ∀ x, sd = some x → x) (hq : m_alls P r X q)
    (hN : ∀ ls st h, X r ls st h → g_K p l e R s m args below meth c Q g nL n0 s0 B (pc + len) ls st h) (hJ : ∀ (t : Nat) (e' : mI), P[t]? = some e' → ∀ ls st h, X (m_drop P t) ls st h → g_K p l e R s m args below meth c Q g nL n0 s0 B e'.2.2.1 ls st h) :
    g_K p l e R s m args below meth c Q g nL n0 s0 B pc ls st h := by
  obtain ⟨hx, hb, hown, hts, hK, hbase, hZ, hin, hAO⟩ := C
  have hl : len = 1 := by simpa [m_chk1] using hchk
  subst hl
  rw [m_act_eq] at ha
  simp only [m_act0] at ha
  split at ha
  · rename_i k s9
    obtain ⟨t, n, rf, htt, hc, ha⟩ := m_alen_some ha
    simp only [m_go, Option.some.injEq, Prod.mk.injEq] at ha
    obtain ⟨rfl, rfl⟩ := ha
    refine k_go (fun H locs cells slots la I w => ?_) (hN _ _ _ hq)
    rcases htt with h6 | h2
    · have hw := g_get I.1 hc (show t < 200 by omega)
      rw [show g_e g h k (t, n, rf) = .inl (g.2.1 t, n, g_c g h k (t, n, rf)) from if_neg (show ¬ t < 100 by omega)] at hw
      have h6 : t = 100 ∨ t = 101 ∨ t = 102 ∨ t = 103 ∨ t = 104 ∨ t = 105 := by omega
      rcases h6 with rfl | rfl | rfl | rfl | rfl | rfl
      · exact va_alen (t0 := 0) (ty := .int) hx hb hK I.1.1 _ hw rfl rfl hd w
      · exact va_alen (t0 := 1) (ty := .boolean) hx hb hK I.1.1 _ hw rfl rfl hd w
      · exact va_alen (t0 := 2) (ty := .long) hx hb hK I.1.1 _ hw rfl rfl hd w
      · exact va_alen (t0 := 3) (ty := .char) hx hb hK I.1.1 _ hw rfl rfl hd w
      · exact va_alen (t0 := 4) (ty := .array .int) hx hb hK I.1.1 _ hw rfl rfl hd w
      · exact va_alen (t0 := 5) (ty := .array .long) hx hb hK I.1.1 _ hw rfl rfl hd w
    · subst h2
      have hk5 : k < 5 := by
        rcases Nat.lt_or_ge k 5 with q | q
        · exact q
        · have := (I.1.2.2.1 k _ hc).2.1 q
          simp at this
      obtain ⟨scr, h1, h2, h3, h4, h5⟩ := I.1.2.2.2.2 k n rf hc
      exact W.alen (n := Int32.ofNat n) (a := g_ad g k) hx hb (by rw [g_ad_lt hk5]; exact h1) h2 h4.2 rfl rfl hd w
  · cases ha
end Sound
/-! ===== stores, fields, switches ===== -/
theorem g_W_ui {g : mG} {h : mH} {k j n t : Nat} {r : List (Option Nat)} {v : Int32} (h5 : 5 ≤ k) (hc : h.1[k]? = some (t, n, r)) (ht : t = 100 ∨ t = 101 ∨ t = 103) :
    g_W g (h.1, m_ui h.2.1 k j v, h.2.2) = (g_W g h).set (k - 5) (g_ad g k, .inl (g.2.1 t, n, .inl (upd (h.2.1 k) j v))) := by
  have e := g_W_put (g := g) (h := h) (h' := (h.1, m_ui h.2.1 k j v, h.2.2)) h5 hc rfl (fun a ha => m_ui_row ha) (fun a ha => rfl)
  rw [e, g_e_i ht, g_ad_ge h5, ← m_ui_upd]
theorem g_W_ul {g : mG} {h : mH} {k j n : Nat} {r : List (Option Nat)} {v : Int64} (h5 : 5 ≤ k) (hc : h.1[k]? = some (102, n, r)) :
    g_W g (h.1, h.2.1, m_ul h.2.2 k j v) = (g_W g h).set (k - 5) (g_ad g k, .inl (g.2.1 102, n, .inr (.inl (vp_updL (h.2.2 k) j v)))) := by
  have e := g_W_put (g := g) (h := h) (h' := (h.1, h.2.1, m_ul h.2.2 k j v)) h5 hc rfl (fun a ha => rfl) (fun a ha => m_ul_row ha)
  rw [e, g_e_l, g_ad_ge h5, ← m_ul_upd]
theorem g_f_at {g : mG} {h : mH} {k ci n j : Nat} {r : List (Option Nat)} (hj : j < n) : ((List.range n).map (g_f g h k ci r))[j]? = some (g_f g h k ci r j) := by
  rw [List.getElem?_map, List.getElem?_range hj]
  rfl
theorem g_f_int {g : mG} {h : mH} {k ci j : Nat} {r : List (Option Nat)} (hk : m_kd ci j = 0 ∨ m_kd ci j = 3) : g_f g h k ci r j = .int (h.2.1 k j) := by
  unfold g_f
  rcases hk with e | e <;> (rw [e]; rfl)
theorem g_f_long {g : mG} {h : mH} {k ci j : Nat} {r : List (Option Nat)} (hk : m_kd ci j = 1) : g_f g h k ci r j = .long (h.2.2 k j) := by
  unfold g_f
  rw [hk]
  rfl
theorem g_f_ref {g : mG} {h : mH} {k ci j : Nat} {r : List (Option Nat)} (hk : m_kd ci j = 2) : g_f g h k ci r j = va_rf (g_r g (r.getD j none)) := by
  unfold g_f
  rw [hk]
  rfl
/-- an int field of an object changes -/
theorem g_W_uf {g : mG} {h : mH} {k j n ci : Nat} {r : List (Option Nat)} {v : Int32} (h5 : 5 ≤ k) (hc : h.1[k]? = some (ci, n, r)) (ht : ci < 100) (hj : j < n) (hk : m_kd ci j = 0 ∨ m_kd ci j = 3) :
    g_W g (h.1, m_ui h.2.1 k j v, h.2.2) = (g_W g h).set (k - 5) (g_ad g k, .inr (ci, ((List.range n).map (g_f g h k ci r)).set j (.int v))) := by
  have e := g_W_put (g := g) (h := h) (h' := (h.1, m_ui h.2.1 k j v, h.2.2)) h5 hc rfl (fun a ha => m_ui_row ha) (fun a ha => rfl)
  rw [e, g_e_o ht, g_ad_ge h5]
  congr 4
  apply List.ext_getElem?
  intro i
  rw [List.getElem?_set]
  by_cases hi : j = i
  · subst hi
    rw [if_pos rfl, List.length_map, List.length_range, if_pos hj, g_f_at hj, g_f_int hk]
    simp [m_ui]
  · rw [if_neg hi]
    by_cases hin : i < n
    · rw [g_f_at hin, g_f_at hin]
      unfold g_f
      dsimp only
      have : m_ui h.2.1 k j v k i = h.2.1 k i := by simp [m_ui, show ¬ i = j from fun q => hi q.symm]
      rw [this]
    · rw [List.getElem?_eq_none (by simp; omega), List.getElem?_eq_none (by simp; omega)]
/-- a reference of an object changes -/
theorem g_W_ur {g : mG} {h : mH} {k j n ci a : Nat} {r : List (Option Nat)} (h5 : 5 ≤ k) (hc : h.1[k]? = some (ci, n, r)) (ht : ci < 100) (hj : j < n) (hr : r.length = n) (hk : m_kd ci j = 2) :
    g_W g (h.1.set k (ci, n, r.set j (some a)), h.2.1, h.2.2) = (g_W g h).set (k - 5) (g_ad g k, .inr (ci, ((List.range n).map (g_f g h k ci r)).set j (.ref (g_ad g a)))) := by
  have hl : k < h.1.length := (List.getElem?_eq_some_iff.mp hc).1
  have e := g_W_set (g := g) (h := h) (h' := (h.1.set k (ci, n, r.set j (some a)), h.2.1, h.2.2)) h5 hl rfl (fun a ha => rfl) (fun a ha => rfl)
  rw [e, g_e_o ht, g_ad_ge h5]
  congr 4
  apply List.ext_getElem?
  intro i
  rw [List.getElem?_set]
  by_cases hi : j = i
  · subst hi
    rw [if_pos rfl, List.length_map, List.length_range, if_pos hj, g_f_at hj, g_f_ref hk]
    simp [g_r, va_rf, List.getD_eq_getElem?_getD, hr, hj]
  · rw [if_neg hi]
    by_cases hin : i < n
    · rw [g_f_at hin, g_f_at hin]
      unfold g_f
      dsimp only
      have : (r.set j (some a)).getD i none = r.getD i none := by
        rw [List.getD_eq_getElem?_getD, List.getElem?_set_ne hi, ← List.getD_eq_getElem?_getD]
      rw [this]
    · rw [List.getElem?_eq_none (by simp; omega), List.getElem?_eq_none (by simp; omega)]
theorem m_s1_set : ∀ (l : List mS) (k : Nat) (t n : Nat) (r : List (Option Nat)) (c' : mS), l[k]? = some (t, n, r) → c'.2.1 = n → m_s1 (l.set k c') = m_s1 l
  | [], k, t, n, r, c', h, _ => by simp at h
  | a :: l, 0, t, n, r, c', h, e => by
    simp at h
    subst h
    simp [m_s1, e]
  | a :: l, k + 1, t, n, r, c', h, e => by
    have := m_s1_set l k t n r c' (by simpa using h) e
    simp only [m_s1] at this ⊢
    rw [List.set_cons_succ, List.map_cons, List.map_cons, List.sum_cons, List.sum_cons, this]
theorem m_sz_set (l : List mS) (k t n : Nat) (r : List (Option Nat)) (c' : mS) (h5 : 5 ≤ k) (h : l[k]? = some (t, n, r)) (e : c'.2.1 = n) : m_sz (l.set k c') = m_sz l := by
  unfold m_sz
  rw [List.drop_set, if_neg (by omega)]
  refine m_s1_set _ _ t n r c' ?_ e
  rw [List.getElem?_drop, show 5 + (k - 5) = k by omega]
  exact h
theorem g_O.setc {g : mG} {U : State} {h : mH} {H H1 : Heap} (hO : g_O g U h H) {k ci n : Nat} {r r' : List (Option Nat)} (h5 : 5 ≤ k) (hc : h.1[k]? = some (ci, n, r)) (hr : r'.length = r.length) (ht : ci < 100) (hk : ∀ a, a < g.2.2.1 → H1[a]? = H[a]?) : g_O g U (h.1.set k (ci, n, r'), h.2.1, h.2.2) H1 := by
  obtain ⟨h0, h1, h2, h3⟩ := hO
  have hl : k < h.1.length := (List.getElem?_eq_some_iff.mp hc).1
  refine ⟨by simp; exact h0, fun i c0 hc0 => ?_, h2, fun i n0 r0 hc0 => ?_⟩
  · dsimp only at hc0
    rw [List.getElem?_set] at hc0
    by_cases e : k = i
    · subst e
      rw [if_pos rfl, if_pos hl] at hc0
      cases hc0
      have := h1 k _ hc
      exact ⟨this.1, this.2.1, fun q => ⟨(this.2.2 q).1, (this.2.2 q).2.1, by have := (this.2.2 q).2.2; dsimp only at this ⊢; omega⟩⟩
    · rw [if_neg e] at hc0
      exact h1 i c0 hc0
  · dsimp only at hc0 ⊢
    rw [List.getElem?_set] at hc0
    by_cases e : k = i
    · subst e
      rw [if_pos rfl, if_pos hl] at hc0
      cases hc0
      omega
    · rw [if_neg e] at hc0
      have hi5 : i < 5 := by
        rcases Nat.lt_or_ge i 5 with q | q
        · exact q
        · have := (h1 i _ hc0).2.1 q
          simp at this
      exact (h3 i n0 r0 hc0).kept (hk _ (h2 i hi5))
section Sound
variable {p : Program} {l : Launch} {e : Env} {R : Room} {s : State} {m : MethodId} {args : Array Value} {below : List Frame} {meth : Method} {c : Code} {Q : State → Prop}
variable {g : mG} {cc : ByteArray} {o nL n0 s0 : Nat} {ii : Bool} {B : Option (Nat × Nat)} {P r : List mI}
variable {FL : List (Nat × Nat × Nat × Nat)} {SL CL : List (Nat × Nat × Nat)} {KI : List (Nat × Nat × Int32)} {KL : List (Nat × Nat × Int64)}
set_option maxHeartbeats 4000000 in
theorem ok_iastore (hLk : m_Lk FL SL CL KI KL) (C : g_Cx g p s m args meth c cc o ii) {sp : Bool} {ix pc len : Nat} {an : List Nat} {kv : Int32} {kl : Int64} {ls : mL} {st : List Value} {h : mH} {sd : Option Prop} {q : List (Option Prop × mN)} {X : List mI → mL → List Value → mH → Prop} 
    (hchk : m_chk1 FL SL CL KI KL ii o P (sp, ix, pc, .iastore, len, an, kv, kl) = true) (hd : decode cc pc = .ok (.iastore, len)) (ha : m_act B (sp, ix, pc, .iastore, len, an, kv, kl) ls st h = some (sd, q)) (hsd : ∀ x, sd = some x → x) (hq : m_alls P r X q)
    (hN : ∀ ls st h, X r ls st h → g_K p l e R s m args below meth c Q g nL n0 s0 B (pc + len) ls st h) (hJ : ∀ (t : Nat) (e' : mI), P[t]? = some e' → ∀ ls st h, X (m_drop P t) ls st h → g_K p l e R s m args below meth c Q g nL n0 s0 B e'.2.2.1 ls st h) :
    g_K p l e R s m args below meth c Q g nL n0 s0 B pc ls st h := by
  obtain ⟨hx, hb, hown, hts, hK, hbase, hZ, hin, hAO⟩ := C
  have hl : len = 1 := by simpa [m_chk1] using hchk
  subst hl
  rw [m_act_eq] at ha
  simp only [m_act0] at ha
  split at ha
  · rename_i x i k s9
    obtain ⟨n, rf, hc, ha⟩ := m_arr_some ha
    simp only [m_sd, Option.some.injEq, Prod.mk.injEq] at ha
    obtain ⟨rfl, rfl⟩ := ha
    have hin0 : vp_in i n := hsd _ rfl
    intro H locs cells slots la I
    have h5 := g_new I.1.2 hc (show (100 : Nat) < 200 by decide)
    have hw := g_get I.1 hc (show (100 : Nat) < 200 by decide)
    rw [g_e_i (Or.inl rfl)] at hw
    refine va_iast (t0 := 0) hx hb hK I.1.1 g_D I.2.2.1 _ hw rfl hin0 hd (fun H1 locs1 hP1 hD1 hS1 => ?_)
    refine hN _ _ _ hq H1 locs1 cells slots la ⟨⟨?_, ?_⟩, I.2.1, hS1, I.2.2.2⟩
    · rw [g_W_ui h5 hc (Or.inl rfl)]
      exact hP1
    · exact g_O.put I.1.2 rfl (fun a ha => m_ui_row (by omega)) (fun a ha => (hS1.low hbase ha).trans (I.2.2.1.low hbase ha).symm)
  · cases ha
set_option maxHeartbeats 4000000 in
theorem ok_bastore (hLk : m_Lk FL SL CL KI KL) (C : g_Cx g p s m args meth c cc o ii) {sp : Bool} {ix pc len : Nat} {an : List Nat} {kv : Int32} {kl : Int64} {ls : mL} {st : List Value} {h : mH} {sd : Option Prop} {q : List (Option Prop × mN)} {X : List mI → mL → List Value → mH → Prop} 
    (hchk : m_chk1 FL SL CL KI KL ii o P (sp, ix, pc, .bastore, len, an, kv, kl) = true) (hd : decode cc pc = .ok (.bastore, len)) (ha : m_act B (sp, ix, pc, .bastore, len, an, kv, kl) ls st h = some (sd, q)) (hsd : ∀ x, sd = some x → x) (hq : m_alls P r X q)
    (hN : ∀ ls st h, X r ls st h → g_K p l e R s m args below meth c Q g nL n0 s0 B (pc + len) ls st h) (hJ : ∀ (t : Nat) (e' : mI), P[t]? = some e' → ∀ ls st h, X (m_drop P t) ls st h → g_K p l e R s m args below meth c Q g nL n0 s0 B e'.2.2.1 ls st h) :
    g_K p l e R s m args below meth c Q g nL n0 s0 B pc ls st h := by
  obtain ⟨hx, hb, hown, hts, hK, hbase, hZ, hin, hAO⟩ := C
  have hl : len = 1 := by simpa [m_chk1] using hchk
  subst hl
  rw [m_act_eq] at ha
  simp only [m_act0] at ha
  split at ha
  · rename_i x i k s9
    obtain ⟨n, rf, hc, ha⟩ := m_arr_some ha
    simp only [m_sd, Option.some.injEq, Prod.mk.injEq] at ha
    obtain ⟨rfl, rfl⟩ := ha
    have hin0 : vp_in i n := hsd _ rfl
    intro H locs cells slots la I
    have h5 := g_new I.1.2 hc (show (101 : Nat) < 200 by decide)
    have hw := g_get I.1 hc (show (101 : Nat) < 200 by decide)
    rw [g_e_i (Or.inr (Or.inl rfl))] at hw
    refine va_zast (t0 := 1) hx hb hK I.1.1 g_D I.2.2.1 _ hw rfl hin0 hd (fun H1 locs1 hP1 hD1 hS1 => ?_)
    refine hN _ _ _ hq H1 locs1 cells slots la ⟨⟨?_, ?_⟩, I.2.1, hS1, I.2.2.2⟩
    · rw [g_W_ui h5 hc (Or.inr (Or.inl rfl))]
      exact hP1
    · exact g_O.put I.1.2 rfl (fun a ha => m_ui_row (by omega)) (fun a ha => (hS1.low hbase ha).trans (I.2.2.1.low hbase ha).symm)
  · cases ha
set_option maxHeartbeats 4000000 in
theorem ok_castore (hLk : m_Lk FL SL CL KI KL) (C : g_Cx g p s m args meth c cc o ii) {sp : Bool} {ix pc len : Nat} {an : List Nat} {kv : Int32} {kl : Int64} {ls : mL} {st : List Value} {h : mH} {sd : Option Prop} {q : List (Option Prop × mN)} {X : List mI → mL → List Value → mH → Prop} 
    (hchk : m_chk1 FL SL CL KI KL ii o P (sp, ix, pc, .castore, len, an, kv, kl) = true) (hd : decode cc pc = .ok (.castore, len)) (ha : m_act B (sp, ix, pc, .castore, len, an, kv, kl) ls st h = some (sd, q)) (hsd : ∀ x, sd = some x → x) (hq : m_alls P r X q)
    (hN : ∀ ls st h, X r ls st h → g_K p l e R s m args below meth c Q g nL n0 s0 B (pc + len) ls st h) (hJ : ∀ (t : Nat) (e' : mI), P[t]? = some e' → ∀ ls st h, X (m_drop P t) ls st h → g_K p l e R s m args below meth c Q g nL n0 s0 B e'.2.2.1 ls st h) :
    g_K p l e R s m args below meth c Q g nL n0 s0 B pc ls st h := by
  obtain ⟨hx, hb, hown, hts, hK, hbase, hZ, hin, hAO⟩ := C
  have hl : len = 1 := by simpa [m_chk1] using hchk
  subst hl
  rw [m_act_eq] at ha
  simp only [m_act0] at ha
  split at ha
  · rename_i x i k s9
    obtain ⟨n, rf, hc, ha⟩ := m_arr_some ha
    simp only [m_sd, Option.some.injEq, Prod.mk.injEq] at ha
    obtain ⟨rfl, rfl⟩ := ha
    have hin0 : vp_in i n := hsd _ rfl
    intro H locs cells slots la I
    have h5 := g_new I.1.2 hc (show (103 : Nat) < 200 by decide)
    have hw := g_get I.1 hc (show (103 : Nat) < 200 by decide)
    rw [g_e_i (Or.inr (Or.inr rfl))] at hw
    refine va_cast (t0 := 3) hx hb hK I.1.1 g_D I.2.2.1 _ hw rfl hin0 hd (fun H1 locs1 hP1 hD1 hS1 => ?_)
    refine hN _ _ _ hq H1 locs1 cells slots la ⟨⟨?_, ?_⟩, I.2.1, hS1, I.2.2.2⟩
    · rw [g_W_ui h5 hc (Or.inr (Or.inr rfl))]
      exact hP1
    · exact g_O.put I.1.2 rfl (fun a ha => m_ui_row (by omega)) (fun a ha => (hS1.low hbase ha).trans (I.2.2.1.low hbase ha).symm)
  · cases ha
set_option maxHeartbeats 4000000 in
theorem ok_lastore (hLk : m_Lk FL SL CL KI KL) (C : g_Cx g p s m args meth c cc o ii) {sp : Bool} {ix pc len : Nat} {an : List Nat} {kv : Int32} {kl : Int64} {ls : mL} {st : List Value} {h : mH} {sd : Option Prop} {q : List (Option Prop × mN)} {X : List mI → mL → List Value → mH → Prop} 
    (hchk : m_chk1 FL SL CL KI KL ii o P (sp, ix, pc, .lastore, len, an, kv, kl) = true) (hd : decode cc pc = .ok (.lastore, len)) (ha : m_act B (sp, ix, pc, .lastore, len, an, kv, kl) ls st h = some (sd, q)) (hsd : ∀ x, sd = some x → x) (hq : m_alls P r X q)
    (hN : ∀ ls st h, X r ls st h → g_K p l e R s m args below meth c Q g nL n0 s0 B (pc + len) ls st h) (hJ : ∀ (t : Nat) (e' : mI), P[t]? = some e' → ∀ ls st h, X (m_drop P t) ls st h → g_K p l e R s m args below meth c Q g nL n0 s0 B e'.2.2.1 ls st h) :
    g_K p l e R s m args below meth c Q g nL n0 s0 B pc ls st h := by
  obtain ⟨hx, hb, hown, hts, hK, hbase, hZ, hin, hAO⟩ := C
  have hl : len = 1 := by simpa [m_chk1] using hchk
  subst hl
  rw [m_act_eq] at ha
  simp only [m_act0] at ha
  split at ha
  · rename_i x i k s9
    obtain ⟨n, rf, hc, ha⟩ := m_arr_some ha
    simp only [m_sd, Option.some.injEq, Prod.mk.injEq] at ha
    obtain ⟨rfl, rfl⟩ := ha
    have hin0 : vp_in i n := hsd _ rfl
    intro H locs cells slots la I
    have h5 := g_new I.1.2 hc (show (102 : Nat) < 200 by decide)
    have hw := g_get I.1 hc (show (102 : Nat) < 200 by decide)
    rw [g_e_l] at hw
    refine va_last (t0 := 2) hx hb hK I.1.1 g_D I.2.2.1 _ hw rfl hin0 hd (fun H1 locs1 hP1 hD1 hS1 => ?_)
    refine hN _ _ _ hq H1 locs1 cells slots la ⟨⟨?_, ?_⟩, I.2.1, hS1, I.2.2.2⟩
    · rw [g_W_ul h5 hc]
      exact hP1
    · exact g_O.put I.1.2 rfl (fun a ha => rfl) (fun a ha => (hS1.low hbase ha).trans (I.2.2.1.low hbase ha).symm)
  · cases ha
set_option maxHeartbeats 4000000 in
theorem ok_getstatic (hLk : m_Lk FL SL CL KI KL) (C : g_Cx g p s m args meth c cc o ii) {sp : Bool} {ix pc len : Nat} {an : List Nat} {kv : Int32} {kl : Int64} {ls : mL} {st : List Value} {h : mH} {sd : Option Prop} {q : List (Option Prop × mN)} {X : List mI → mL → List Value → mH → Prop} {i : Nat}
    (hchk : m_chk1 FL SL CL KI KL ii o P (sp, ix, pc, (.getstatic i), len, an, kv, kl) = true) (hd : decode cc pc = .ok ((.getstatic i), len)) (ha : m_act B (sp, ix, pc, (.getstatic i), len, an, kv, kl) ls st h = some (sd, q)) (hsd : ∀ x, sd = some x → x) (hq : m_alls P r X q)
    (hN : ∀ ls st h, X r ls st h → g_K p l e R s m args below meth c Q g nL n0 s0 B (pc + len) ls st h) (hJ : ∀ (t : Nat) (e' : mI), P[t]? = some e' → ∀ ls st h, X (m_drop P t) ls st h → g_K p l e R s m args below meth c Q g nL n0 s0 B e'.2.2.1 ls st h) :
    g_K p l e R s m args below meth c Q g nL n0 s0 B pc ls st h := by
  obtain ⟨hx, hb, hown, hts, hK, hbase, hZ, hin, hAO⟩ := C
  rw [m_act_eq] at ha
  simp only [m_act0] at ha
  split at ha
  · rename_i a
    have hl : len = 3 ∧ ∃ x y z, (x, y, z) ∈ SL ∧ (x = o ∧ y = i) ∧ z = a := by simpa [m_chk1] using hchk
    obtain ⟨rfl, x, y, z, hm, ⟨rfl, rfl⟩, rfl⟩ := hl
    simp only [m_go, Option.some.injEq, Prod.mk.injEq] at ha
    obtain ⟨rfl, rfl⟩ := ha
    obtain ⟨zz, hz, he, hlt, hw⟩ := hLk.2.2.1 _ hm
    dsimp only at he hlt hw
    refine k_go (fun H locs cells slots la I w => ?_) (hN _ _ _ hq)
    have hz2 := hZ zz hz
    rw [he] at hz2
    refine va_gets hx hb hz2 I.2.2.1 hown (hts _ hw) (fun _ h9 => h9) hd ?_
    have e : g_v g (.ref z) = .ref (g.2.2.2 z) := by
      show Value.ref (g_ad g z) = _
      rw [g_ad_lt hlt]
    rw [List.map_cons, e] at w
    exact w
  · cases ha
set_option maxHeartbeats 4000000 in
theorem ok_getfield (hLk : m_Lk FL SL CL KI KL) (C : g_Cx g p s m args meth c cc o ii) {sp : Bool} {ix pc len : Nat} {an : List Nat} {kv : Int32} {kl : Int64} {ls : mL} {st : List Value} {h : mH} {sd : Option Prop} {q : List (Option Prop × mN)} {X : List mI → mL → List Value → mH → Prop} {i : Nat}
    (hchk : m_chk1 FL SL CL KI KL ii o P (sp, ix, pc, (.getfield i), len, an, kv, kl) = true) (hd : decode cc pc = .ok ((.getfield i), len)) (ha : m_act B (sp, ix, pc, (.getfield i), len, an, kv, kl) ls st h = some (sd, q)) (hsd : ∀ x, sd = some x → x) (hq : m_alls P r X q)
    (hN : ∀ ls st h, X r ls st h → g_K p l e R s m args below meth c Q g nL n0 s0 B (pc + len) ls st h) (hJ : ∀ (t : Nat) (e' : mI), P[t]? = some e' → ∀ ls st h, X (m_drop P t) ls st h → g_K p l e R s m args below meth c Q g nL n0 s0 B e'.2.2.1 ls st h) :
    g_K p l e R s m args below meth c Q g nL n0 s0 B pc ls st h := by
  obtain ⟨hx, hb, hown, hts, hK, hbase, hZ, hin, hAO⟩ := C
  rw [m_act_eq] at ha
  simp only [m_act0, m_getf0] at ha
  split at ha
  · rename_i f ci j kd k s9
    have hl : len = 3 ∧ FL[f]? = some (o, i, ci, j) ∧ ci < 12 ∧ j < m_nf ci ∧ (m_kd ci j = kd ∨ m_kd ci j = 3 ∧ kd = 0) ∧ kd ≤ 2 := by simpa [m_chk1, and_assoc] using hchk
    obtain ⟨rfl, hfl, hci, hj, hkd, hk2⟩ := hl
    obtain ⟨n, rf, hc, ha⟩ := m_arr_some ha
    split at ha
    · simp only [m_go, Option.some.injEq, Prod.mk.injEq] at ha
      obtain ⟨rfl, rfl⟩ := ha
      refine k_go (fun H locs cells slots la I w => ?_) (hN _ _ _ hq)
      have hw := g_get I.1 hc (show ci < 200 by omega)
      rw [g_e_o (show ci < 100 by omega)] at hw
      have hn : n = m_nf ci := ((I.1.2.2.1 k _ hc).2.2 (show ci < 100 by omega)).2.1
      refine va_get (D := g.1) (ci := ci) (C := m_cn ci) (T := m_T ci) (N := m_nf ci) hx hb hts (hLk.1 ci hci) hown hK I.1.1 (k - 5) hw (m_cls_at ci hci) j hj (hts _ (hLk.2.1 _ (List.mem_of_getElem? hfl))) (fun _ h9 => h9) (v := .int (h.2.1 k j)) ?_ hd w
      rw [g_f_at (by omega), g_f_int (by omega)]
    · simp only [m_go, Option.some.injEq, Prod.mk.injEq] at ha
      obtain ⟨rfl, rfl⟩ := ha
      refine k_go (fun H locs cells slots la I w => ?_) (hN _ _ _ hq)
      have hw := g_get I.1 hc (show ci < 200 by omega)
      rw [g_e_o (show ci < 100 by omega)] at hw
      have hn : n = m_nf ci := ((I.1.2.2.1 k _ hc).2.2 (show ci < 100 by omega)).2.1
      refine va_get (D := g.1) (ci := ci) (C := m_cn ci) (T := m_T ci) (N := m_nf ci) hx hb hts (hLk.1 ci hci) hown hK I.1.1 (k - 5) hw (m_cls_at ci hci) j hj (hts _ (hLk.2.1 _ (List.mem_of_getElem? hfl))) (fun _ h9 => h9) (v := .long (h.2.2 k j)) ?_ hd w
      rw [g_f_at (by omega), g_f_long (by omega)]
    · rename_i hk0 hk1
      rw [m_nth_eq] at ha
      split at ha
      · rename_i a hra
        have hkd2 : kd = 2 := by
          have h0 : kd ≠ 0 := fun q => hk0 q
          have h1 : kd ≠ 1 := fun q => hk1 q
          omega
        simp only [m_go, Option.some.injEq, Prod.mk.injEq] at ha
        obtain ⟨rfl, rfl⟩ := ha
        refine k_go (fun H locs cells slots la I w => ?_) (hN _ _ _ hq)
        have hw := g_get I.1 hc (show ci < 200 by omega)
        rw [g_e_o (show ci < 100 by omega)] at hw
        have hn : n = m_nf ci := ((I.1.2.2.1 k _ hc).2.2 (show ci < 100 by omega)).2.1
        refine va_get (D := g.1) (ci := ci) (C := m_cn ci) (T := m_T ci) (N := m_nf ci) hx hb hts (hLk.1 ci hci) hown hK I.1.1 (k - 5) hw (m_cls_at ci hci) j hj (hts _ (hLk.2.1 _ (List.mem_of_getElem? hfl))) (fun _ h9 => h9) (v := .ref (g_ad g a)) ?_ hd w
        rw [g_f_at (by omega), g_f_ref (by omega)]
        simp [g_r, va_rf, List.getD_eq_getElem?_getD, hra]
      · cases ha
  · cases ha
theorem m_kind_int {ci j : Nat} (h : m_kd ci j = 0) : m_tyOf ci j = .int := by
  unfold m_kd at h
  cases e : m_tyOf ci j <;> rw [e] at h <;> simp [m_kindOf] at h
theorem m_kind_bool {ci j : Nat} (h : m_kd ci j = 3) : m_tyOf ci j = .boolean := by
  unfold m_kd at h
  cases e : m_tyOf ci j <;> rw [e] at h <;> simp [m_kindOf] at h
theorem m_kind_ref {ci j : Nat} (h : m_kd ci j = 2) (a : Nat) : narrow (m_tyOf ci j) (.ref a) = .ref a ∧ fits (m_tyOf ci j) (.ref a) = true := by
  unfold m_kd at h
  cases e : m_tyOf ci j <;> rw [e] at h <;> simp [m_kindOf] at h
  · exact ⟨rfl, rfl⟩
  · exact ⟨rfl, rfl⟩
set_option maxHeartbeats 4000000 in
theorem ok_putfield (hLk : m_Lk FL SL CL KI KL) (C : g_Cx g p s m args meth c cc o ii) {sp : Bool} {ix pc len : Nat} {an : List Nat} {kv : Int32} {kl : Int64} {ls : mL} {st : List Value} {h : mH} {sd : Option Prop} {q : List (Option Prop × mN)} {X : List mI → mL → List Value → mH → Prop} {i : Nat}
    (hchk : m_chk1 FL SL CL KI KL ii o P (sp, ix, pc, (.putfield i), len, an, kv, kl) = true) (hd : decode cc pc = .ok ((.putfield i), len)) (ha : m_act B (sp, ix, pc, (.putfield i), len, an, kv, kl) ls st h = some (sd, q)) (hsd : ∀ x, sd = some x → x) (hq : m_alls P r X q)
    (hN : ∀ ls st h, X r ls st h → g_K p l e R s m args below meth c Q g nL n0 s0 B (pc + len) ls st h) (hJ : ∀ (t : Nat) (e' : mI), P[t]? = some e' → ∀ ls st h, X (m_drop P t) ls st h → g_K p l e R s m args below meth c Q g nL n0 s0 B e'.2.2.1 ls st h) :
    g_K p l e R s m args below meth c Q g nL n0 s0 B pc ls st h := by
  obtain ⟨hx, hb, hown, hts, hK, hbase, hZ, hin, hAO⟩ := C
  rw [m_act_eq] at ha
  simp only [m_act0, m_putf0, m_setK_eq] at ha
  split at ha
  · rename_i f ci j x k s9
    have hl : len = 3 ∧ FL[f]? = some (o, i, ci, j) ∧ ci < 12 ∧ j < m_nf ci ∧ m_kd ci j = 0 ∧ ((m_T ci j).2.2.2 = false ∨ ((ii = true ∧ o = ci) ∧ (m_T ci j).1 = m_cn o)) := by simpa [m_chk1, and_assoc] using hchk
    obtain ⟨rfl, hfl, hci, hj, hkd, hfin⟩ := hl
    obtain ⟨n, rf, hc, ha⟩ := m_arr_some ha
    simp only [m_go, m_sd, Option.some.injEq, Prod.mk.injEq] at ha
    obtain ⟨rfl, rfl⟩ := ha
    intro H locs cells slots la I
    have h5 := g_new I.1.2 hc (show ci < 200 by omega)
    have hw := g_get I.1 hc (show ci < 200 by omega)
    rw [g_e_o (show ci < 100 by omega)] at hw
    have hnn := (I.1.2.2.1 k _ hc).2.2 (show ci < 100 by omega)
    have hn : n = m_nf ci := hnn.2.1
    have hrl : rf.length = n := hnn.2.2
    have hnar : narrow (m_tyOf ci j) (.int x) = .int x := by rw [m_kind_int hkd]; rfl
    have hfit : fits (m_tyOf ci j) (.int x) = true := by rw [m_kind_int hkd]; rfl
    have kk : ∀ (H1 : Heap) (locs1 : List Loc), va_P g.1 vwCl ((g_W g h).set (k - 5) (g_ad g k, .inr (ci, ((List.range n).map (g_f g h k ci rf)).set j (.int x)))) H1 → va_D (g_A g) ((g_W g h).set (k - 5) (g_ad g k, .inr (ci, ((List.range n).map (g_f g h k ci rf)).set j (.int x)))) → va_S (g_A g) s.heap H1 locs1 → W p l e R s m args below meth c H1 locs1 cells slots Q (F0 m (pc + 3) la (s9.map (g_v g))) := by
      intro H1 locs1 hP1 hD1 hS1
      refine hN _ _ _ hq H1 locs1 cells slots la ⟨⟨?_, ?_⟩, I.2.1, hS1, I.2.2.2⟩
      · rw [g_W_uf h5 hc (by omega) (by omega) (Or.inl hkd)]
        exact hP1
      · exact g_O.put I.1.2 rfl (fun a ha => m_ui_row (by omega)) (fun a ha => (hS1.low hbase ha).trans (I.2.2.1.low hbase ha).symm)
    rcases hfin with hf | ⟨⟨hi1, rfl⟩, hdecl⟩
    · exact va_put (D := g.1) (ci := ci) (C := m_cn ci) (T := m_T ci) (N := m_nf ci) (ty := m_tyOf ci j) hx hb hts (hLk.1 ci hci) (m_tyOf ci) (m_cls_ty ci hci) (m_cls_nm ci hci) hown hK I.1.1 g_D I.2.2.1 (k - 5) hw (m_cls_at ci hci) j hj (hts _ (hLk.2.1 _ (List.mem_of_getElem? hfl))) (fun _ h9 => h9) hf (m_cls_ty ci hci j hj) hnar hfit (by rw [List.length_map, List.length_range]; omega) hd kk
    · cases hf : (m_T o j).2.2.2 with
      | false => exact va_put (D := g.1) (ci := o) (C := m_cn o) (T := m_T o) (N := m_nf o) (ty := m_tyOf o j) hx hb hts (hLk.1 o hci) (m_tyOf o) (m_cls_ty o hci) (m_cls_nm o hci) hown hK I.1.1 g_D I.2.2.1 (k - 5) hw (m_cls_at o hci) j hj (hts _ (hLk.2.1 _ (List.mem_of_getElem? hfl))) (fun _ h9 => h9) hf (m_cls_ty o hci j hj) hnar hfit (by rw [List.length_map, List.length_range]; omega) hd kk
      | true => exact va_putF (D := g.1) (ci := o) (C := m_cn o) (T := m_T o) (N := m_nf o) (ty := m_tyOf o j) hx hb hts (hLk.1 o hci) (m_tyOf o) (m_cls_ty o hci) (m_cls_nm o hci) hown hK I.1.1 g_D I.2.2.1 (k - 5) hw (m_cls_at o hci) j hj (hts _ (hLk.2.1 _ (List.mem_of_getElem? hfl))) (fun _ h9 => h9) hf (hin hi1) hdecl (m_cls_ty o hci j hj) hnar hfit (by rw [List.length_map, List.length_range]; omega) hd kk
  · rename_i f ci j x k s9
    have hl : len = 3 ∧ FL[f]? = some (o, i, ci, j) ∧ ci < 12 ∧ j < m_nf ci ∧ m_kd ci j = 3 ∧ ((m_T ci j).2.2.2 = false ∨ ((ii = true ∧ o = ci) ∧ (m_T ci j).1 = m_cn o)) := by simpa [m_chk1, and_assoc] using hchk
    obtain ⟨rfl, hfl, hci, hj, hkd, hfin⟩ := hl
    obtain ⟨n, rf, hc, ha⟩ := m_arr_some ha
    simp only [m_go, m_sd, Option.some.injEq, Prod.mk.injEq] at ha
    obtain ⟨rfl, rfl⟩ := ha
    have hx01 : x = 0 ∨ x = 1 := hsd _ rfl
    intro H locs cells slots la I
    have h5 := g_new I.1.2 hc (show ci < 200 by omega)
    have hw := g_get I.1 hc (show ci < 200 by omega)
    rw [g_e_o (show ci < 100 by omega)] at hw
    have hnn := (I.1.2.2.1 k _ hc).2.2 (show ci < 100 by omega)
    have hn : n = m_nf ci := hnn.2.1
    have hrl : rf.length = n := hnn.2.2
    have hnar : narrow (m_tyOf ci j) (.int x) = .int x := by rw [m_kind_bool hkd]; rcases hx01 with rfl | rfl <;> rfl
    have hfit : fits (m_tyOf ci j) (.int x) = true := by rw [m_kind_bool hkd]; rcases hx01 with rfl | rfl <;> rfl
    have kk : ∀ (H1 : Heap) (locs1 : List Loc), va_P g.1 vwCl ((g_W g h).set (k - 5) (g_ad g k, .inr (ci, ((List.range n).map (g_f g h k ci rf)).set j (.int x)))) H1 → va_D (g_A g) ((g_W g h).set (k - 5) (g_ad g k, .inr (ci, ((List.range n).map (g_f g h k ci rf)).set j (.int x)))) → va_S (g_A g) s.heap H1 locs1 → W p l e R s m args below meth c H1 locs1 cells slots Q (F0 m (pc + 3) la (s9.map (g_v g))) := by
      intro H1 locs1 hP1 hD1 hS1
      refine hN _ _ _ hq H1 locs1 cells slots la ⟨⟨?_, ?_⟩, I.2.1, hS1, I.2.2.2⟩
      · rw [g_W_uf h5 hc (by omega) (by omega) (Or.inr hkd)]
        exact hP1
      · exact g_O.put I.1.2 rfl (fun a ha => m_ui_row (by omega)) (fun a ha => (hS1.low hbase ha).trans (I.2.2.1.low hbase ha).symm)
    rcases hfin with hf | ⟨⟨hi1, rfl⟩, hdecl⟩
    · exact va_put (D := g.1) (ci := ci) (C := m_cn ci) (T := m_T ci) (N := m_nf ci) (ty := m_tyOf ci j) hx hb hts (hLk.1 ci hci) (m_tyOf ci) (m_cls_ty ci hci) (m_cls_nm ci hci) hown hK I.1.1 g_D I.2.2.1 (k - 5) hw (m_cls_at ci hci) j hj (hts _ (hLk.2.1 _ (List.mem_of_getElem? hfl))) (fun _ h9 => h9) hf (m_cls_ty ci hci j hj) hnar hfit (by rw [List.length_map, List.length_range]; omega) hd kk
    · cases hf : (m_T o j).2.2.2 with
      | false => exact va_put (D := g.1) (ci := o) (C := m_cn o) (T := m_T o) (N := m_nf o) (ty := m_tyOf o j) hx hb hts (hLk.1 o hci) (m_tyOf o) (m_cls_ty o hci) (m_cls_nm o hci) hown hK I.1.1 g_D I.2.2.1 (k - 5) hw (m_cls_at o hci) j hj (hts _ (hLk.2.1 _ (List.mem_of_getElem? hfl))) (fun _ h9 => h9) hf (m_cls_ty o hci j hj) hnar hfit (by rw [List.length_map, List.length_range]; omega) hd kk
      | true => exact va_putF (D := g.1) (ci := o) (C := m_cn o) (T := m_T o) (N := m_nf o) (ty := m_tyOf o j) hx hb hts (hLk.1 o hci) (m_tyOf o) (m_cls_ty o hci) (m_cls_nm o hci) hown hK I.1.1 g_D I.2.2.1 (k - 5) hw (m_cls_at o hci) j hj (hts _ (hLk.2.1 _ (List.mem_of_getElem? hfl))) (fun _ h9 => h9) hf (hin hi1) hdecl (m_cls_ty o hci j hj) hnar hfit (by rw [List.length_map, List.length_range]; omega) hd kk
  · rename_i f ci j a k s9
    have hl : len = 3 ∧ FL[f]? = some (o, i, ci, j) ∧ ci < 12 ∧ j < m_nf ci ∧ m_kd ci j = 2 ∧ ((m_T ci j).2.2.2 = false ∨ ((ii = true ∧ o = ci) ∧ (m_T ci j).1 = m_cn o)) := by simpa [m_chk1, and_assoc] using hchk
    obtain ⟨rfl, hfl, hci, hj, hkd, hfin⟩ := hl
    obtain ⟨n, rf, hc, ha⟩ := m_arr_some ha
    simp only [m_go, m_sd, Option.some.injEq, Prod.mk.injEq] at ha
    obtain ⟨rfl, rfl⟩ := ha
    intro H locs cells slots la I
    have h5 := g_new I.1.2 hc (show ci < 200 by omega)
    have hw := g_get I.1 hc (show ci < 200 by omega)
    rw [g_e_o (show ci < 100 by omega)] at hw
    have hnn := (I.1.2.2.1 k _ hc).2.2 (show ci < 100 by omega)
    have hn : n = m_nf ci := hnn.2.1
    have hrl : rf.length = n := hnn.2.2
    have hnar : narrow (m_tyOf ci j) (.ref (g_ad g a)) = .ref (g_ad g a) := (m_kind_ref hkd _).1
    have hfit : fits (m_tyOf ci j) (.ref (g_ad g a)) = true := (m_kind_ref hkd _).2
    have kk : ∀ (H1 : Heap) (locs1 : List Loc), va_P g.1 vwCl ((g_W g h).set (k - 5) (g_ad g k, .inr (ci, ((List.range n).map (g_f g h k ci rf)).set j (.ref (g_ad g a))))) H1 → va_D (g_A g) ((g_W g h).set (k - 5) (g_ad g k, .inr (ci, ((List.range n).map (g_f g h k ci rf)).set j (.ref (g_ad g a))))) → va_S (g_A g) s.heap H1 locs1 → W p l e R s m args below meth c H1 locs1 cells slots Q (F0 m (pc + 3) la (s9.map (g_v g))) := by
      intro H1 locs1 hP1 hD1 hS1
      refine hN _ _ _ hq H1 locs1 cells slots la ⟨⟨?_, ?_⟩, I.2.1, hS1, ⟨by rw [← I.2.2.2.1.1]; simp, by rw [← I.2.2.2.1.2]; exact m_sz_set _ _ _ _ _ _ h5 hc rfl⟩, I.2.2.2.2⟩
      · rw [g_W_ur h5 hc (by omega) (by omega) hrl hkd]
        exact hP1
      · exact g_O.setc I.1.2 h5 hc (by simp) (by omega) (fun a ha => (hS1.low hbase ha).trans (I.2.2.1.low hbase ha).symm)
    rcases hfin with hf | ⟨⟨hi1, rfl⟩, hdecl⟩
    · exact va_put (D := g.1) (ci := ci) (C := m_cn ci) (T := m_T ci) (N := m_nf ci) (ty := m_tyOf ci j) hx hb hts (hLk.1 ci hci) (m_tyOf ci) (m_cls_ty ci hci) (m_cls_nm ci hci) hown hK I.1.1 g_D I.2.2.1 (k - 5) hw (m_cls_at ci hci) j hj (hts _ (hLk.2.1 _ (List.mem_of_getElem? hfl))) (fun _ h9 => h9) hf (m_cls_ty ci hci j hj) hnar hfit (by rw [List.length_map, List.length_range]; omega) hd kk
    · cases hf : (m_T o j).2.2.2 with
      | false => exact va_put (D := g.1) (ci := o) (C := m_cn o) (T := m_T o) (N := m_nf o) (ty := m_tyOf o j) hx hb hts (hLk.1 o hci) (m_tyOf o) (m_cls_ty o hci) (m_cls_nm o hci) hown hK I.1.1 g_D I.2.2.1 (k - 5) hw (m_cls_at o hci) j hj (hts _ (hLk.2.1 _ (List.mem_of_getElem? hfl))) (fun _ h9 => h9) hf (m_cls_ty o hci j hj) hnar hfit (by rw [List.length_map, List.length_range]; omega) hd kk
      | true => exact va_putF (D := g.1) (ci := o) (C := m_cn o) (T := m_T o) (N := m_nf o) (ty := m_tyOf o j) hx hb hts (hLk.1 o hci) (m_tyOf o) (m_cls_ty o hci) (m_cls_nm o hci) hown hK I.1.1 g_D I.2.2.1 (k - 5) hw (m_cls_at o hci) j hj (hts _ (hLk.2.1 _ (List.mem_of_getElem? hfl))) (fun _ h9 => h9) hf (hin hi1) hdecl (m_cls_ty o hci j hj) hnar hfit (by rw [List.length_map, List.length_range]; omega) hd kk
  · cases ha
theorem m_sw_spec {X : List mI → mL → List Value → mH → Prop} {x : Int32} {ls : mL} {st : List Value} {h : mH} {d : Nat} : ∀ (ts : List Nat) (v : Int32) (no : Option Prop), m_alls P r X (m_sw x ls st h d v ts no) →
    (∀ (i t : Nat), ts[i]? = some t → x = v + Int32.ofNat i → X (m_drop P t) ls st h) ∧ ((∀ q, no = some q → q) → (∀ i : Nat, i < ts.length → ¬ x = v + Int32.ofNat i) → X (m_drop P d) ls st h)
  | [], v, no, H => by
    refine ⟨fun i t ht => by simp at ht, fun hno _ => ?_⟩
    cases no with
    | none => exact H
    | some q => exact H (hno q rfl)
  | t :: ts, v, no, H => by
    have H2 : (x = v → X (m_drop P t) ls st h) ∧ m_alls P r X (m_sw x ls st h d (v + 1) ts (m_nop no (¬ x = v))) := by
      cases ts <;> exact H
    obtain ⟨a, b⟩ := H2
    obtain ⟨i1, i2⟩ := m_sw_spec ts (v + 1) _ b
    have hstep : ∀ i : Nat, v + 1 + Int32.ofNat i = v + Int32.ofNat (i + 1) := by
      intro i
      have : Int32.ofNat (i + 1) = Int32.ofNat i + 1 := inc_ofNat i
      rw [this, Int32.add_assoc, Int32.add_comm 1]
    refine ⟨fun i t' ht hxv => ?_, fun hno hall => ?_⟩
    · cases i with
      | zero =>
        simp at ht
        subst ht
        exact a (by rw [hxv]; simp)
      | succ i => exact i1 i t' (by simpa using ht) (by rw [hstep]; exact hxv)
    · have h0 : ¬ x = v := fun q => hall 0 (by simp) (by rw [q]; simp)
      refine i2 (fun q hq => ?_) (fun i hi hxv => hall (i + 1) (by simp; omega) (by rw [← hstep]; exact hxv))
      cases no with
      | none => cases hq; exact h0
      | some q0 => cases hq; exact ⟨hno q0 rfl, h0⟩
theorem m_sub_spec {pc : Nat} : ∀ (os : List Int) (ts : List Nat), m_sub P pc os ts = true → os.length = ts.length ∧ ∀ (i t : Nat), ts[i]? = some t → ∃ off, os[i]? = some off ∧ m_tgt P pc off t = true
  | [], [], _ => ⟨rfl, fun i t h => by simp at h⟩
  | [], _ :: _, h => by simp [m_sub] at h
  | _ :: _, [], h => by simp [m_sub] at h
  | a :: os, b :: ts, h => by
    simp only [m_sub, Bool.and_eq_true] at h
    obtain ⟨h1, h2⟩ := m_sub_spec os ts h.2
    refine ⟨by simp [h1], fun i t ht => ?_⟩
    cases i with
    | zero =>
      simp at ht
      subst ht
      exact ⟨a, rfl, h.1⟩
    | succ i =>
      obtain ⟨off, e1, e2⟩ := h2 i t (by simpa using ht)
      exact ⟨off, by simpa using e1, e2⟩
set_option maxHeartbeats 4000000 in
theorem ok_tableswitch (hLk : m_Lk FL SL CL KI KL) (C : g_Cx g p s m args meth c cc o ii) {sp : Bool} {ix pc len : Nat} {an : List Nat} {kv : Int32} {kl : Int64} {ls : mL} {st : List Value} {h : mH} {sd : Option Prop} {q : List (Option Prop × mN)} {X : List mI → mL → List Value → mH → Prop} {d lo hi : Int} {offs : Array Int}
    (hchk : m_chk1 FL SL CL KI KL ii o P (sp, ix, pc, (.tableswitch d lo hi offs), len, an, kv, kl) = true) (hd : decode cc pc = .ok ((.tableswitch d lo hi offs), len)) (ha : m_act B (sp, ix, pc, (.tableswitch d lo hi offs), len, an, kv, kl) ls st h = some (sd, q)) (hsd : ∀ x, sd = some x → x) (hq : m_alls P r X q)
    (hN : ∀ ls st h, X r ls st h → g_K p l e R s m args below meth c Q g nL n0 s0 B (pc + len) ls st h) (hJ : ∀ (t : Nat) (e' : mI), P[t]? = some e' → ∀ ls st h, X (m_drop P t) ls st h → g_K p l e R s m args below meth c Q g nL n0 s0 B e'.2.2.1 ls st h) :
    g_K p l e R s m args below meth c Q g nL n0 s0 B pc ls st h := by
  obtain ⟨hx, hb, hown, hts, hK, hbase, hZ, hin, hAO⟩ := C
  rw [m_act_eq] at ha
  simp only [m_act0] at ha
  split at ha
  · rename_i td ts x s9
    have hl : Int32.ofInt lo = kv ∧ -1000 ≤ lo ∧ lo ≤ 1000 ∧ offs.size ≤ 1000 ∧ hi + 1 = lo + (offs.size : Int) ∧ m_tgt P pc d td = true ∧ m_sub P pc offs.toList ts = true := by simpa [m_chk1, and_assoc] using hchk
    obtain ⟨rfl, hlo1, hlo2, hsz, hhi, htd, hsub⟩ := hl
    simp only [Option.some.injEq, Prod.mk.injEq] at ha
    obtain ⟨rfl, rfl⟩ := ha
    obtain ⟨s1, s2⟩ := m_sw_spec ts _ _ hq
    obtain ⟨e1, e2⟩ := m_sub_spec _ _ hsub
    rw [Array.length_toList] at e1
    have hval : ∀ i : Nat, i < 1000 → (Int32.ofInt lo + Int32.ofNat i).toInt = lo + (i : Int) := by
      intro i hi
      rw [Int32.toInt_add, Int32.toInt_ofInt_of_le (by omega) (by omega), toInt_of rfl (show i < 2 ^ 31 by omega)]
      exact Int.bmod_eq_of_le (by omega) (by omega)
    intro H locs cells slots la I
    by_cases hr : x.toInt < lo ∨ hi < x.toInt
    · obtain ⟨e', he, hpc⟩ := m_tgt_spec htd
      refine lv_tableOut hx hb hd hr hpc (hJ _ _ he _ _ _ (s2 (fun q hq => by cases hq) (fun i hi2 hxv => ?_)) _ _ _ _ _ I)
      have := hval i (by omega)
      rw [← hxv] at this
      omega
    · have h1 : ¬ x.toInt < lo := fun q => hr (Or.inl q)
      have h2 : ¬ hi < x.toInt := fun q => hr (Or.inr q)
      have hi0 : (x.toInt - lo).toNat < ts.length := by omega
      obtain ⟨off, o1, o2⟩ := e2 _ _ (List.getElem?_eq_getElem hi0)
      obtain ⟨e', he, hpc⟩ := m_tgt_spec o2
      refine lv_tableIn hx hb hd h1 h2 (off := off) (by rw [← Array.getElem?_toList]; exact o1) hpc (hJ _ _ he _ _ _ (s1 _ _ (List.getElem?_eq_getElem hi0) ?_) _ _ _ _ _ I)
      apply Int32.toInt_inj.mp
      rw [hval _ (by omega)]
      omega
  · cases ha
end Sound
/-! ===== cells that come ===== -/
theorem m_ci_row {n : Nat} {f : Nat → Nat → Int32} {a : Nat} (h : a < n) : m_ci n f a = f a := by
  funext i
  simp [m_ci, h]
theorem m_cl_row {n : Nat} {f : Nat → Nat → Int64} {a : Nat} (h : a < n) : m_cl n f a = f a := by
  funext i
  simp [m_cl, h]
theorem m_ci_new {n : Nat} {f : Nat → Nat → Int32} {a i : Nat} (h : n ≤ a) : m_ci n f a i = 0 := by
  simp [m_ci, Nat.not_lt.mpr h]
theorem m_cl_new {n : Nat} {f : Nat → Nat → Int64} {a i : Nat} (h : n ≤ a) : m_cl n f a i = 0 := by
  simp [m_cl, Nat.not_lt.mpr h]
theorem g_R.app {g : mG} {U : State} {h : mH} {H H1 : Heap} {cs : List mS} (hR : g_R g U h H) (hsz : H.size = g.2.2.1 + (h.1.length - 5)) (hold : ∀ q : Nat, q < H.size → H1[q]? = H[q]?)
    (hnew : ∀ (i : Nat) (c : mS), cs[i]? = some c → va_at g.1 vwCl (H.size + i, g_e g (h.1 ++ cs, m_ci h.1.length h.2.1, m_cl h.1.length h.2.2) (h.1.length + i) c) H1)
    (htag : ∀ c ∈ cs, c.1 < 200 ∧ (c.1 < 100 → c.1 < 12 ∧ c.2.1 = m_nf c.1 ∧ c.2.2.length = c.2.1)) : g_R g U (h.1 ++ cs, m_ci h.1.length h.2.1, m_cl h.1.length h.2.2) H1 := by
  obtain ⟨hP, h0, h1, h2, h3⟩ := hR
  refine ⟨?_, by simp; omega, fun k c hc => ?_, h2, fun k n r hc => ?_⟩
  · rw [g_W_app (h := h) (cs := cs) h0 rfl (fun a ha => m_ci_row ha) (fun a ha => m_cl_row ha)]
    refine va_P.app (hP.kept (fun k q hk => hold q.1 ((hP k q hk).lt))) (fun k q hk => ?_)
    have hk2 : k < cs.length := by
      have := (List.getElem?_eq_some_iff.mp hk).1
      simpa using this
    rw [List.getElem?_map, List.getElem?_range hk2] at hk
    cases hk
    have := hnew k _ (List.getElem?_eq_getElem hk2)
    rw [hsz] at this
    dsimp only
    rw [List.getD_eq_getElem?_getD, List.getElem?_eq_getElem hk2]
    exact this
  · dsimp only at hc
    by_cases hk : k < h.1.length
    · rw [List.getElem?_append_left hk] at hc
      exact h1 k c hc
    · rw [List.getElem?_append_right (by omega)] at hc
      have := htag c (List.mem_of_getElem? hc)
      exact ⟨fun q => by omega, fun _ => this.1, this.2⟩
  · dsimp only at hc ⊢
    by_cases hk : k < h.1.length
    · rw [List.getElem?_append_left hk] at hc
      have hk5 : k < 5 := by
        rcases Nat.lt_or_ge k 5 with q | q
        · exact q
        · have := (h1 k _ hc).2.1 q
          simp at this
      rw [m_ci_row hk]
      exact (h3 k n r hc).kept (hold _ (by have := h2 k hk5; omega))
    · rw [List.getElem?_append_right (by omega)] at hc
      have := (htag _ (List.mem_of_getElem? hc)).1
      simp at this
theorem m_sz_app {a b : List mS} (h : 5 ≤ a.length) : m_sz (a ++ b) = m_sz a + m_s1 b := by
  unfold m_sz
  rw [List.drop_append_of_le_length h]
  simp [m_s1]
theorem m_sz_cr (a c9 : mS) (n : Nat) : m_s1 (a :: List.replicate n c9) = a.2.1 + n * c9.2.1 := by
  induction n with
  | zero => simp [m_s1]
  | succ n ih =>
    simp only [m_s1, List.map_cons, List.sum_cons, List.replicate_succ] at ih ⊢
    rw [Nat.succ_mul]
    omega
theorem m_kd_ok : ∀ ci, ci < 12 → ∀ j, j < m_nf ci → m_kd ci j = 0 ∨ m_kd ci j = 1 ∨ m_kd ci j = 2 ∨ m_kd ci j = 3 := by
  intro ci h
  match ci, h with
  | 0, _ => decide +kernel
  | 1, _ => decide +kernel
  | 2, _ => decide +kernel
  | 3, _ => decide +kernel
  | 4, _ => decide +kernel
  | 5, _ => decide +kernel
  | 6, _ => decide +kernel
  | 7, _ => decide +kernel
  | 8, _ => decide +kernel
  | 9, _ => decide +kernel
  | 10, _ => decide +kernel
  | 11, _ => decide +kernel
  | n + 12, h => exact absurd h (by omega)
theorem m_kd_dv {ci j : Nat} (hk : m_kd ci j = 0 ∨ m_kd ci j = 1 ∨ m_kd ci j = 2 ∨ m_kd ci j = 3) (g : mG) (h : mH) (k n : Nat) (h1 : h.2.1 k j = 0) (h2 : h.2.2 k j = 0) : defaultValue (m_tyOf ci j) = g_f g h k ci (List.replicate n none) j := by
  have hr : (List.replicate n (none : Option Nat)).getD j none = none := by
    rw [List.getD_eq_getElem?_getD, List.getElem?_replicate]
    split <;> rfl
  rcases hk with e | e | e | e
  · rw [g_f_int (Or.inl e), m_kind_int e, h1]; rfl
  · rw [g_f_long e, h2]
    unfold m_kd at e
    cases e' : m_tyOf ci j <;> rw [e'] at e <;> simp [m_kindOf] at e
    rfl
  · rw [g_f_ref e, hr]
    unfold m_kd at e
    cases e' : m_tyOf ci j <;> rw [e'] at e <;> simp [m_kindOf] at e <;> rfl
  · rw [g_f_int (Or.inr e), m_kind_bool e, h1]; rfl
section Sound
variable {p : Program} {l : Launch} {e : Env} {R : Room} {s : State} {m : MethodId} {args : Array Value} {below : List Frame} {meth : Method} {c : Code} {Q : State → Prop}
variable {g : mG} {cc : ByteArray} {o nL n0 s0 : Nat} {ii : Bool} {B : Option (Nat × Nat)} {P r : List mI}
variable {FL : List (Nat × Nat × Nat × Nat)} {SL CL : List (Nat × Nat × Nat)} {KI : List (Nat × Nat × Int32)} {KL : List (Nat × Nat × Int64)}
theorem w_size {H : Heap} {locs : List Loc} {cells slots : Nat} {f : JFrame} (kk : H.size ≤ s.heap.size + cells → W p l e R s m args below meth c H locs cells slots Q f) : W p l e R s m args below meth c H locs cells slots Q f :=
  fun T hT X => kk (hT ▸ X.heapSize) T hT X
theorem g_size {ls : mL} {h : mH} {H : Heap} {locs : List Loc} {cells slots : Nat} {la : Array Slot} (hz0 : s.heap.size = g.2.2.1 + (n0 - 5)) (hn0 : 5 ≤ n0) (I : g_I g s nL n0 s0 B ls h H locs cells slots la) (hup : H.size ≤ s.heap.size + cells) : H.size = g.2.2.1 + (h.1.length - 5) := by
  obtain ⟨⟨hP, hO⟩, -, hS, ⟨hl, -⟩, -⟩ := I
  have h1 := hS.1
  rcases Nat.lt_or_ge 5 h.1.length with q | q
  · have hc : h.1[h.1.length - 1]? = some h.1[h.1.length - 1] := List.getElem?_eq_getElem (by omega)
    have := (hP _ _ (g_W_get (g := g) (k := h.1.length - 1) (by omega) hc)).lt
    dsimp only at this
    omega
  · omega
set_option maxHeartbeats 4000000 in
theorem ok_new (hLk : m_Lk FL SL CL KI KL) (C : g_Cx g p s m args meth c cc o ii) {sp : Bool} {ix pc len : Nat} {an : List Nat} {kv : Int32} {kl : Int64} {ls : mL} {st : List Value} {h : mH} {sd : Option Prop} {q : List (Option Prop × mN)} {X : List mI → mL → List Value → mH → Prop} {i : Nat} (hz0 : s.heap.size = g.2.2.1 + (n0 - 5)) (hn0 : 5 ≤ n0) (hB : ∀ b, B = some b → b.1 ≤ n0 + R.cells ∧ b.2 ≤ s0 + R.slots)
    (hchk : m_chk1 FL SL CL KI KL ii o P (sp, ix, pc, (.new i), len, an, kv, kl) = true) (hd : decode cc pc = .ok ((.new i), len)) (ha : m_act B (sp, ix, pc, (.new i), len, an, kv, kl) ls st h = some (sd, q)) (hsd : ∀ x, sd = some x → x) (hq : m_alls P r X q)
    (hN : ∀ ls st h, X r ls st h → g_K p l e R s m args below meth c Q g nL n0 s0 B (pc + len) ls st h) (hJ : ∀ (t : Nat) (e' : mI), P[t]? = some e' → ∀ ls st h, X (m_drop P t) ls st h → g_K p l e R s m args below meth c Q g nL n0 s0 B e'.2.2.1 ls st h) :
    g_K p l e R s m args below meth c Q g nL n0 s0 B pc ls st h := by
  obtain ⟨hx, hb, hown, hts, hK, hbase, hZ, hin, hAO⟩ := C
  rw [m_act_eq] at ha
  simp only [m_act0, m_lenK_eq, Nat.zero_add, m_appK_eq, List.append_nil] at ha
  split at ha
  · rename_i b ci n
    have hl : len = 3 ∧ (∃ x y z, (x, y, z) ∈ CL ∧ (x = o ∧ y = i) ∧ z = ci) ∧ ci < 12 ∧ m_nf ci = n := by simpa [m_chk1, and_assoc] using hchk
    obtain ⟨rfl, ⟨x, y, z, hm, ⟨rfl, rfl⟩, rfl⟩, hci, rfl⟩ := hl
    simp only [m_sd, Option.some.injEq, Prod.mk.injEq] at ha
    obtain ⟨rfl, rfl⟩ := ha
    obtain ⟨hs1, hs2⟩ := hsd _ rfl
    obtain ⟨hB1, hB2⟩ := hB b rfl
    intro H locs cells slots la I
    refine w_size (fun hup => ?_)
    have hsz := g_size hz0 hn0 I hup
    have hKn := hK.1 z _ (m_cls_at z hci)
    obtain ⟨⟨e1, e2⟩, -⟩ := I.2.2.2
    refine W.newcK hx hb hown (hts _ ((hLk.2.2.2.1 _ hm).1 hci)) (hts _ (hLk.2.2.2.2.2.2.1 z hci).1) (hts _ (hLk.2.2.2.2.2.2.1 z hci).2) rfl hd (by omega) (by omega) hKn.2.1 rfl (fun H1 kC hkC c1 z1 o1 => ?_)
    have hadr : g_v g (.ref h.1.length) = .ref H.size := by
      show Value.ref (g_ad g _) = _
      rw [g_ad_ge I.1.2.1, hsz]
    have := hN _ _ _ hq H1 locs (cells + 1) (slots + m_nf z) la ⟨g_R.app (cs := [(z, m_nf z, List.replicate (m_nf z) none)]) I.1 hsz o1 (fun i9 c9 hc9 => ?_) (fun c9 hc9 => ?_), I.2.1, ⟨by have := I.2.2.1.1; omega, fun q9 h1 h2 => (o1 q9 (Nat.lt_of_lt_of_le h1 I.2.2.1.1)).trans (I.2.2.1.2.1 q9 h1 h2), I.2.2.1.2.2⟩, ⟨by simp; omega, by rw [m_sz_app I.1.2.1]; simp [m_s1]; omega⟩, fun q9 => by cases q9⟩
    · rw [List.map_cons, hadr] at this
      exact this
    · cases i9 with
      | zero =>
        simp at hc9
        subst hc9
        rw [g_e_o (show z < 100 by omega)]
        refine ⟨_, m_cls_at z hci, ?_⟩
        refine (u_born (m_tyOf z) hts (hLk.1 z hci) hKn hkC c1 (m_cls_ty z hci)).to (fun j hj => ?_)
        rw [vp_V, List.getD_eq_getElem?_getD, g_f_at hj, Option.getD_some]
        exact m_kd_dv (m_kd_ok z hci j hj) g _ _ _ (m_ci_new (by omega)) (m_cl_new (by omega))
      | succ i9 => simp at hc9
    · simp at hc9
      subst hc9
      exact ⟨show z < 200 by omega, fun _ => ⟨hci, rfl, by simp⟩⟩
  · cases ha
theorem g_tagc (hK : va_K g.1 vwCl (g_tys g) s) {ty : ArrayType} (hty : m_atag ty ≠ 199) {cA : ClassId} (hf : s.vm.findClass ("[" ++ (newarray.typeOf ty).toString) = some cA) : cA = g.2.1 (m_atag ty) := by
  cases ty <;> simp [m_atag] at hty
  · exact Option.some.inj (hf.symm.trans (hK.2 1 _ rfl).2)
  · exact Option.some.inj (hf.symm.trans (hK.2 3 _ rfl).2)
  · exact Option.some.inj (hf.symm.trans (hK.2 0 _ rfl).2)
  · exact Option.some.inj (hf.symm.trans (hK.2 2 _ rfl).2)
theorem m_atag_ok {ty : ArrayType} (hty : m_atag ty ≠ 199) : 100 ≤ m_atag ty ∧ m_atag ty < 104 ∧ componentBytes (newarray.typeOf ty) ≤ 8 := by
  cases ty <;> simp [m_atag] at hty ⊢ <;> decide
theorem m_atag_cell {ty : ArrayType} (hty : m_atag ty ≠ 199) {h : mH} {k n : Nat} (h1 : ∀ i, h.2.1 k i = 0) (h2 : ∀ i, h.2.2 k i = 0) : vp_cell (g.2.1 (m_atag ty)) (n, g_c g h k (m_atag ty, n, [])) = arrV (g.2.1 (m_atag ty)) n (fun _ => defaultValue (newarray.typeOf ty)) := by
  cases ty <;> simp [m_atag] at hty <;> simp [g_c, m_atag, vp_cell, h1, h2] <;> rfl
set_option maxHeartbeats 4000000 in
theorem ok_newarray (hLk : m_Lk FL SL CL KI KL) (C : g_Cx g p s m args meth c cc o ii) {sp : Bool} {ix pc len : Nat} {an : List Nat} {kv : Int32} {kl : Int64} {ls : mL} {st : List Value} {h : mH} {sd : Option Prop} {q : List (Option Prop × mN)} {X : List mI → mL → List Value → mH → Prop} {ty : ArrayType} (hz0 : s.heap.size = g.2.2.1 + (n0 - 5)) (hn0 : 5 ≤ n0) (hB : ∀ b, B = some b → b.1 ≤ n0 + R.cells ∧ b.2 ≤ s0 + R.slots)
    (hchk : m_chk1 FL SL CL KI KL ii o P (sp, ix, pc, (.newarray ty), len, an, kv, kl) = true) (hd : decode cc pc = .ok ((.newarray ty), len)) (ha : m_act B (sp, ix, pc, (.newarray ty), len, an, kv, kl) ls st h = some (sd, q)) (hsd : ∀ x, sd = some x → x) (hq : m_alls P r X q)
    (hN : ∀ ls st h, X r ls st h → g_K p l e R s m args below meth c Q g nL n0 s0 B (pc + len) ls st h) (hJ : ∀ (t : Nat) (e' : mI), P[t]? = some e' → ∀ ls st h, X (m_drop P t) ls st h → g_K p l e R s m args below meth c Q g nL n0 s0 B e'.2.2.1 ls st h) :
    g_K p l e R s m args below meth c Q g nL n0 s0 B pc ls st h := by
  obtain ⟨hx, hb, hown, hts, hK, hbase, hZ, hin, hAO⟩ := C
  rw [m_act_eq] at ha
  simp only [m_act0, m_lenK_eq, Nat.zero_add, m_appK_eq, List.append_nil] at ha
  split at ha
  · rename_i b n s9
    have hl : len = 2 ∧ m_atag ty ≠ 199 := by simpa [m_chk1, and_assoc] using hchk
    obtain ⟨rfl, hty⟩ := hl
    simp only [m_sd, Option.some.injEq, Prod.mk.injEq] at ha
    obtain ⟨rfl, rfl⟩ := ha
    obtain ⟨hn1, hn2, hs1, hs2⟩ := hsd _ rfl
    obtain ⟨hB1, hB2⟩ := hB b rfl
    intro H locs cells slots la I
    refine w_size (fun hup => ?_)
    have hsz := g_size hz0 hn0 I hup
    obtain ⟨⟨e1, e2⟩, -⟩ := I.2.2.2
    obtain ⟨t1, t2, t3⟩ := m_atag_ok hty
    have harr : (Cond.arrayClass (newarray.typeOf ty)).before args s = true := by
      obtain ⟨a1, a2, a3, a4⟩ := hLk.2.2.2.2.2.2.2
      cases ty <;> simp [m_atag] at hty
      · exact hts _ a2
      · exact hts _ a4
      · exact hts _ a1
      · exact hts _ a3
    refine va_newaK hx hb harr rfl hd rfl hn1 rfl (Nat.le_trans (Nat.mul_le_mul hn2 t3) (by decide)) (by omega) (by omega) rfl (fun H1 cA c1 z1 o1 hAr hNm => ?_)
    have hcA := g_tagc hK hty hNm
    subst hcA
    have hadr : g_v g (.ref h.1.length) = .ref H.size := by
      show Value.ref (g_ad g _) = _
      rw [g_ad_ge I.1.2.1, hsz]
    have := hN _ _ _ hq H1 locs (cells + 1) (slots + n.toNatClampNeg) la ⟨g_R.app (cs := [(m_atag ty, n.toNatClampNeg, [])]) I.1 hsz o1 (fun i9 c9 hc9 => ?_) (fun c9 hc9 => ?_), I.2.1, ⟨by have := I.2.2.1.1; omega, fun q9 h1 h2 => (o1 q9 (Nat.lt_of_lt_of_le h1 I.2.2.1.1)).trans (I.2.2.1.2.1 q9 h1 h2), I.2.2.1.2.2⟩, ⟨by simp; omega, by rw [m_sz_app I.1.2.1]; simp [m_s1]; omega⟩, fun q9 => by cases q9⟩
    · rw [List.map_cons, hadr] at this
      exact this
    · cases i9 with
      | zero =>
        simp at hc9
        subst hc9
        rw [show g_e g (h.1 ++ [(m_atag ty, n.toNatClampNeg, [])], m_ci h.1.length h.2.1, m_cl h.1.length h.2.2) (h.1.length + 0) (m_atag ty, n.toNatClampNeg, []) = .inl (g.2.1 (m_atag ty), n.toNatClampNeg, g_c g (h.1 ++ [(m_atag ty, n.toNatClampNeg, [])], m_ci h.1.length h.2.1, m_cl h.1.length h.2.2) (h.1.length + 0) (m_atag ty, n.toNatClampNeg, [])) from if_neg (show ¬ m_atag ty < 100 by omega)]
        show H1[H.size + 0]? = some (vp_cell _ _)
        rw [m_atag_cell hty (fun i => m_ci_new (by omega)) (fun i => m_cl_new (by omega))]
        exact c1
      | succ i9 => simp at hc9
    · simp at hc9
      subst hc9
      exact ⟨show m_atag ty < 200 by omega, fun q9 => absurd q9 (show ¬ m_atag ty < 100 by omega)⟩
  · cases ha
theorem m_outer (c9 : ClassId) (N h9 : Nat) : ∀ i : Nat, Jvm.Free.Multi.outerC c9 N h9 i = arrV c9 N (fun j => va_rf (if j < i then some (h9 + 1 + j) else none))
  | 0 => by
    show ({ cls := c9, slots := Array.replicate N .null, vm := .none } : Cell) = _
    rw [arrV_new]
    exact congrArg (arrV c9 N) (funext fun j => by simp [va_rf])
  | i + 1 => by
    show (Jvm.Free.Multi.outerC c9 N h9 i).setSlot i (.ref (h9 + 1 + i)) = _
    rw [m_outer c9 N h9 i, arrV_store]
    refine congrArg (arrV c9 N) (funext fun j => ?_)
    rcases Nat.lt_trichotomy j i with q | q | q
    · simp [updV, show ¬ j = i by omega, q, show j < i + 1 by omega]
    · subst q
      simp [updV, va_rf]
    · simp [updV, show ¬ j = i by omega, show ¬ j < i by omega, show ¬ j < i + 1 by omega]
theorem m_arrV_congr {c9 : ClassId} {N : Nat} {f f' : Nat → Value} (hh : ∀ j, j < N → f j = f' j) : arrV c9 N f = arrV c9 N f' := by
  unfold arrV
  congr 1
  apply Array.ext
  · simp
  · intro i h1 h2
    simp at h1 ⊢
    exact hh i h1
set_option maxHeartbeats 4000000 in
theorem ok_mna (C : g_Cx g p s m args meth c cc o ii) {pc i : Nat} {ls : mL} {s9 : List Value} {h : mH} {X : mL → List Value → mH → Prop} (hz0 : s.heap.size = g.2.2.1 + (n0 - 5)) (hn0 : 5 ≤ n0) {b : Nat × Nat} (hB1 : b.1 ≤ n0 + R.cells) (hB2 : b.2 ≤ s0 + R.slots)
    {ty : FieldType} {to ti : Nat} (hto : to = 104 ∨ to = 105) (hti : ti = 100 ∨ ti = 102) (hd : decode cc pc = .ok (.multianewarray i 2, 4)) {n k : Int32}
    (hcl : (Cond.classLink (m_cn o) i ("[" ++ (FieldType.array ty).toString)).before args s = true) (hover : m_AO ty s) (harr : (Cond.arrayClass ty).before args s = true) (hcb : componentBytes ty ≤ 8) (hdf : fits ty (defaultValue ty) = true) (hdd : (defaultValue ty).isDefault = true)
    (hfo : s.vm.findClass ("[" ++ (FieldType.array ty).toString) = some (g.2.1 to)) (hfi : s.vm.findClass (FieldType.array ty).toString = some (g.2.1 ti))
    (hin9 : ∀ (h9 : mH) (k9 : Nat), (∀ i, h9.2.1 k9 i = 0) → (∀ i, h9.2.2 k9 i = 0) → vp_cell (g.2.1 ti) (k.toNatClampNeg, g_c g h9 k9 (ti, k.toNatClampNeg, [])) = arrV (g.2.1 ti) k.toNatClampNeg (fun _ => defaultValue ty))
    (hsd : ¬ n < 0 ∧ ¬ k < 0 ∧ n.toNatClampNeg ≤ 1000 ∧ k.toNatClampNeg ≤ 1000 ∧ h.1.length + (1 + n.toNatClampNeg) ≤ b.1 ∧ m_sz h.1 + (n.toNatClampNeg + n.toNatClampNeg * k.toNatClampNeg) ≤ b.2)
    (hN : g_K p l e R s m args below meth c Q g nL n0 s0 (some b) (pc + 4) ls (.ref h.1.length :: s9) (h.1 ++ (to, n.toNatClampNeg, (List.range n.toNatClampNeg).map (fun i => some (h.1.length + 1 + i))) :: List.replicate n.toNatClampNeg (ti, k.toNatClampNeg, []), m_ci h.1.length h.2.1, m_cl h.1.length h.2.2)) :
    g_K p l e R s m args below meth c Q g nL n0 s0 (some b) pc ls (.int k :: .int n :: s9) h := by
  obtain ⟨hx, hb, hown, hts, hK, hbase, hZ, hin, hAO⟩ := C
  obtain ⟨hn, hk, hn1, hk1, hs1, hs2⟩ := hsd
  intro H locs cells slots la I
  refine w_size (fun hup => ?_)
  have hsz := g_size hz0 hn0 I hup
  obtain ⟨⟨e1, e2⟩, -⟩ := I.2.2.2
  have hadr : g_v g (.ref h.1.length) = .ref H.size := by
    show Value.ref (g_ad g _) = _
    rw [g_ad_ge I.1.2.1, hsz]
  intro T hT Xs
  have hkb : k.toNatClampNeg * componentBytes ty ≤ 536870912 := Nat.le_trans (Nat.mul_le_mul hk1 hcb) (by decide)
  obtain ⟨vm₁, cA, comp, -, fA, fC, hO9, hI9, X', step⟩ := Xs.multianewarray2F hx hown hcl hover harr (g := F0 m pc la (.int k :: .int n :: s9.map (g_v g))) rfl (by rw [hb]; exact hd) rfl hn hk (by omega) hkb (by omega) hdf hdd (by omega) (by omega)
  have ecA : cA = g.2.1 to := Option.some.inj (fA.symm.trans hfo)
  have ecc : comp = g.2.1 ti := Option.some.inj (fC.symm.trans hfi)
  subst ecA
  subst ecc
  generalize hF : Jvm.Free.Multi.fill (T.setVm vm₁) (g.2.1 to) (g.2.1 ti) n.toNatClampNeg k.toNatClampNeg (defaultValue ty) n.toNatClampNeg = F at X' step
  have hTh : (T.setVm vm₁).heap = H := hT
  obtain ⟨f1, f2, -, -⟩ := Jvm.Free.Multi.fill_facts (T.setVm vm₁) (g.2.1 to) (g.2.1 ti) n.toNatClampNeg k.toNatClampNeg (defaultValue ty) n.toNatClampNeg
  rw [hF, hTh] at f1 f2
  have hold : ∀ x : Nat, x < H.size → F.heap[x]? = H[x]? := fun x hx9 => by
    have := Jvm.Free.Multi.fill_old (T.setVm vm₁) (g.2.1 to) (g.2.1 ti) n.toNatClampNeg k.toNatClampNeg (defaultValue ty) (a := x) (by rw [hTh]; exact hx9) n.toNatClampNeg
    rw [hF, hTh] at this
    exact this
  have hrow : ∀ j : Nat, j < n.toNatClampNeg → F.heap[H.size + 1 + j]? = some (arrV (g.2.1 ti) k.toNatClampNeg (fun _ => defaultValue ty)) := fun j hj => by
    have := Jvm.Free.Multi.fill_inner (T.setVm vm₁) (g.2.1 to) (g.2.1 ti) n.toNatClampNeg k.toNatClampNeg (defaultValue ty) n.toNatClampNeg j hj
    rw [hF, hTh] at this
    rw [this, ← arrV_new]
    rfl
  rw [m_outer] at f2
  have := hN F.heap locs (cells + 1 + n.toNatClampNeg) (slots + n.toNatClampNeg + n.toNatClampNeg * k.toNatClampNeg) la ⟨g_R.app I.1 hsz hold (fun i9 c9 hc9 => ?_) (fun c9 hc9 => ?_), I.2.1, ⟨by have := I.2.2.1.1; omega, fun q9 h1 h2 => (hold q9 (Nat.lt_of_lt_of_le h1 I.2.2.1.1)).trans (I.2.2.1.2.1 q9 h1 h2), I.2.2.1.2.2⟩, ⟨by simp; omega, by rw [m_sz_app I.1.2.1, m_sz_cr]; dsimp only; omega⟩, fun q9 => by cases q9⟩
  · rw [List.map_cons, hadr] at this
    obtain ⟨t, a1, b1⟩ := this F rfl X'
    refine ⟨t, step t ?_, b1⟩
    have e9 : T.heap.size = H.size := by rw [hT]
    rw [e9]
    exact a1
  · cases i9 with
    | zero =>
      simp only [List.getElem?_cons_zero, Option.some.injEq] at hc9
      subst hc9
      rw [g_e_q hto]
      show F.heap[H.size + 0]? = some (vp_cell _ _)
      rw [vp_cell_q]
      refine f2.trans (congrArg some (m_arrV_congr (fun j hj => ?_)))
      rw [if_pos hj, List.getD_eq_getElem?_getD, List.getElem?_map, List.getElem?_range hj]
      have e9 : H.size + 1 + j = g_ad g (h.1.length + 1 + j) := by
        have := I.1.2.1
        rw [g_ad_ge (by omega)]
        omega
      rw [e9]
      rfl
    | succ i9 =>
      rw [List.getElem?_cons_succ, List.getElem?_replicate] at hc9
      split at hc9
      · rename_i hi9
        cases hc9
        rw [show g_e g _ _ (ti, k.toNatClampNeg, []) = .inl (g.2.1 ti, k.toNatClampNeg, g_c g _ _ (ti, k.toNatClampNeg, [])) from if_neg (show ¬ ti < 100 by omega)]
        show F.heap[H.size + (i9 + 1)]? = some (vp_cell _ _)
        rw [hin9 _ _ (fun i => m_ci_new (by omega)) (fun i => m_cl_new (by omega)), show H.size + (i9 + 1) = H.size + 1 + i9 by omega]
        exact hrow i9 hi9
      · cases hc9
  · rcases List.mem_cons.mp hc9 with rfl | hc9
    · exact ⟨show to < 200 by omega, fun q9 => absurd q9 (show ¬ to < 100 by omega)⟩
    · have := List.eq_of_mem_replicate hc9
      subst this
      exact ⟨show ti < 200 by omega, fun q9 => absurd q9 (show ¬ ti < 100 by omega)⟩
set_option maxHeartbeats 4000000 in
theorem ok_multianewarray (hLk : m_Lk FL SL CL KI KL) (C : g_Cx g p s m args meth c cc o ii) {sp : Bool} {ix pc len : Nat} {an : List Nat} {kv : Int32} {kl : Int64} {ls : mL} {st : List Value} {h : mH} {sd : Option Prop} {q : List (Option Prop × mN)} {X : List mI → mL → List Value → mH → Prop} {i dm : Nat} (hz0 : s.heap.size = g.2.2.1 + (n0 - 5)) (hn0 : 5 ≤ n0) (hB : ∀ b, B = some b → b.1 ≤ n0 + R.cells ∧ b.2 ≤ s0 + R.slots)
    (hchk : m_chk1 FL SL CL KI KL ii o P (sp, ix, pc, (.multianewarray i dm), len, an, kv, kl) = true) (hd : decode cc pc = .ok ((.multianewarray i dm), len)) (ha : m_act B (sp, ix, pc, (.multianewarray i dm), len, an, kv, kl) ls st h = some (sd, q)) (hsd : ∀ x, sd = some x → x) (hq : m_alls P r X q)
    (hN : ∀ ls st h, X r ls st h → g_K p l e R s m args below meth c Q g nL n0 s0 B (pc + len) ls st h) (hJ : ∀ (t : Nat) (e' : mI), P[t]? = some e' → ∀ ls st h, X (m_drop P t) ls st h → g_K p l e R s m args below meth c Q g nL n0 s0 B e'.2.2.1 ls st h) :
    g_K p l e R s m args below meth c Q g nL n0 s0 B pc ls st h := by
  obtain ⟨hx, hb, hown, hts, hK, hbase, hZ, hin, hAO⟩ := id C
  rw [m_act_eq] at ha
  simp only [m_act0, m_lenK_eq, Nat.zero_add, m_appK_eq, List.append_nil] at ha
  split at ha
  · rename_i b to ti k n s9
    have hl : len = 4 ∧ dm = 2 ∧ (∃ x y z, (x, y, z) ∈ CL ∧ (x = o ∧ y = i) ∧ z = to) ∧ (to = 104 ∧ ti = 100 ∨ to = 105 ∧ ti = 102) := by simpa [m_chk1, and_assoc] using hchk
    obtain ⟨rfl, rfl, ⟨x, y, z, hm, ⟨rfl, rfl⟩, rfl⟩, htt⟩ := hl
    simp only [m_sd, Option.some.injEq, Prod.mk.injEq] at ha
    obtain ⟨rfl, rfl⟩ := ha
    have hs9 := hsd _ rfl
    obtain ⟨hB1, hB2⟩ := hB b rfl
    obtain ⟨a1, a2, a3, a4⟩ := hLk.2.2.2.2.2.2.2
    rcases htt with ⟨rfl, rfl⟩ | ⟨rfl, rfl⟩
    · exact ok_mna (X := fun _ _ _ => True) C hz0 hn0 hB1 hB2 (ty := .int) (Or.inl rfl) (Or.inl rfl) hd (hts _ ((hLk.2.2.2.1 _ hm).2.1 rfl)) hAO.1 (hts _ a1) (by decide) rfl rfl (hK.2 4 _ rfl).2 (hK.2 0 _ rfl).2 (fun h9 k9 e1 e2 => by simp [g_c, vp_cell, e1]; rfl) hs9 (hN _ _ _ hq)
    · exact ok_mna (X := fun _ _ _ => True) C hz0 hn0 hB1 hB2 (ty := .long) (Or.inr rfl) (Or.inr rfl) hd (hts _ ((hLk.2.2.2.1 _ hm).2.2 rfl)) hAO.2.1 (hts _ a3) (by decide) rfl rfl (hK.2 5 _ rfl).2 (hK.2 2 _ rfl).2 (fun h9 k9 e1 e2 => by simp [g_c, vp_cell, e2]; rfl) hs9 (hN _ _ _ hq)
  · cases ha
end Sound
/-! ===== A BODY ===== -/
section Sound
variable {p : Program} {l : Launch} {e : Env} {R : Room} {s : State} {m : MethodId} {args : Array Value} {below : List Frame} {meth : Method} {c : Code} {Q : State → Prop}
variable {g : mG} {cc : ByteArray} {o nL n0 s0 : Nat} {ii : Bool} {B : Option (Nat × Nat)} {P r : List mI}
variable {FL : List (Nat × Nat × Nat × Nat)} {SL CL : List (Nat × Nat × Nat)} {KI : List (Nat × Nat × Int32)} {KL : List (Nat × Nat × Int64)}
set_option maxHeartbeats 4000000 in
theorem m_act_ok (hLk : m_Lk FL SL CL KI KL) (C : g_Cx g p s m args meth c cc o ii) (hz0 : s.heap.size = g.2.2.1 + (n0 - 5)) (hn0 : 5 ≤ n0) (hB : ∀ b, B = some b → b.1 ≤ n0 + R.cells ∧ b.2 ≤ s0 + R.slots)
    {sp : Bool} {ix pc len : Nat} {ins : Instr} {an : List Nat} {kv : Int32} {kl : Int64} {ls : mL} {st : List Value} {h : mH} {sd : Option Prop} {q : List (Option Prop × mN)} {X : List mI → mL → List Value → mH → Prop}
    (hchk : m_chk1 FL SL CL KI KL ii o P (sp, ix, pc, ins, len, an, kv, kl) = true) (hd : decode cc pc = .ok (ins, len)) (ha : m_act B (sp, ix, pc, ins, len, an, kv, kl) ls st h = some (sd, q)) (hsd : ∀ x, sd = some x → x) (hq : m_alls P r X q)
    (hN : ∀ ls st h, X r ls st h → g_K p l e R s m args below meth c Q g nL n0 s0 B (pc + len) ls st h) (hJ : ∀ (t : Nat) (e' : mI), P[t]? = some e' → ∀ ls st h, X (m_drop P t) ls st h → g_K p l e R s m args below meth c Q g nL n0 s0 B e'.2.2.1 ls st h) :
    g_K p l e R s m args below meth c Q g nL n0 s0 B pc ls st h := by
  cases ins with
  | iadd => exact ok_iadd hLk C hchk hd ha hsd hq hN hJ
  | isub => exact ok_isub hLk C hchk hd ha hsd hq hN hJ
  | imul => exact ok_imul hLk C hchk hd ha hsd hq hN hJ
  | iand => exact ok_iand hLk C hchk hd ha hsd hq hN hJ
  | ior => exact ok_ior hLk C hchk hd ha hsd hq hN hJ
  | ixor => exact ok_ixor hLk C hchk hd ha hsd hq hN hJ
  | ishl => exact ok_ishl hLk C hchk hd ha hsd hq hN hJ
  | ishr => exact ok_ishr hLk C hchk hd ha hsd hq hN hJ
  | iushr => exact ok_iushr hLk C hchk hd ha hsd hq hN hJ
  | ladd => exact ok_ladd hLk C hchk hd ha hsd hq hN hJ
  | lsub => exact ok_lsub hLk C hchk hd ha hsd hq hN hJ
  | lmul => exact ok_lmul hLk C hchk hd ha hsd hq hN hJ
  | land => exact ok_land hLk C hchk hd ha hsd hq hN hJ
  | lor => exact ok_lor hLk C hchk hd ha hsd hq hN hJ
  | lshl => exact ok_lshl hLk C hchk hd ha hsd hq hN hJ
  | lshr => exact ok_lshr hLk C hchk hd ha hsd hq hN hJ
  | lushr => exact ok_lushr hLk C hchk hd ha hsd hq hN hJ
  | idiv => exact ok_idiv hLk C hchk hd ha hsd hq hN hJ
  | ldiv => exact ok_ldiv hLk C hchk hd ha hsd hq hN hJ
  | ineg => exact ok_ineg hLk C hchk hd ha hsd hq hN hJ
  | lneg => exact ok_lneg hLk C hchk hd ha hsd hq hN hJ
  | lcmp => exact ok_lcmp hLk C hchk hd ha hsd hq hN hJ
  | i2l => exact ok_i2l hLk C hchk hd ha hsd hq hN hJ
  | l2i => exact ok_l2i hLk C hchk hd ha hsd hq hN hJ
  | i2s => exact ok_i2s hLk C hchk hd ha hsd hq hN hJ
  | i2c => exact ok_i2c hLk C hchk hd ha hsd hq hN hJ
  | dup_x1 => exact ok_dup_x1 hLk C hchk hd ha hsd hq hN hJ
  | dup2 => exact ok_dup2 hLk C hchk hd ha hsd hq hN hJ
  | pop => exact ok_pop hLk C hchk hd ha hsd hq hN hJ
  | dup => exact ok_dup hLk C hchk hd ha hsd hq hN hJ
  | iaload => exact ok_iaload hLk C hchk hd ha hsd hq hN hJ
  | baload => exact ok_baload hLk C hchk hd ha hsd hq hN hJ
  | caload => exact ok_caload hLk C hchk hd ha hsd hq hN hJ
  | laload => exact ok_laload hLk C hchk hd ha hsd hq hN hJ
  | aaload => exact ok_aaload hLk C hchk hd ha hsd hq hN hJ
  | arraylength => exact ok_arraylength hLk C hchk hd ha hsd hq hN hJ
  | iastore => exact ok_iastore hLk C hchk hd ha hsd hq hN hJ
  | bastore => exact ok_bastore hLk C hchk hd ha hsd hq hN hJ
  | castore => exact ok_castore hLk C hchk hd ha hsd hq hN hJ
  | lastore => exact ok_lastore hLk C hchk hd ha hsd hq hN hJ
  | iconst a9 => exact ok_iconst hLk C hchk hd ha hsd hq hN hJ
  | bipush a9 => exact ok_bipush hLk C hchk hd ha hsd hq hN hJ
  | sipush a9 => exact ok_sipush hLk C hchk hd ha hsd hq hN hJ
  | lconst a9 => exact ok_lconst hLk C hchk hd ha hsd hq hN hJ
  | ldc2_w a9 => exact ok_ldc2_w hLk C hchk hd ha hsd hq hN hJ
  | ldc a9 => exact ok_ldc hLk C hchk hd ha hsd hq hN hJ
  | ldc_w a9 => exact ok_ldc_w hLk C hchk hd ha hsd hq hN hJ
  | iload a9 => exact ok_iload hLk C hchk hd ha hsd hq hN hJ
  | iload_n a9 => exact ok_iload_n hLk C hchk hd ha hsd hq hN hJ
  | lload a9 => exact ok_lload hLk C hchk hd ha hsd hq hN hJ
  | lload_n a9 => exact ok_lload_n hLk C hchk hd ha hsd hq hN hJ
  | aload a9 => exact ok_aload hLk C hchk hd ha hsd hq hN hJ
  | aload_n a9 => exact ok_aload_n hLk C hchk hd ha hsd hq hN hJ
  | istore a9 => exact ok_istore hLk C hchk hd ha hsd hq hN hJ
  | istore_n a9 => exact ok_istore_n hLk C hchk hd ha hsd hq hN hJ
  | astore a9 => exact ok_astore hLk C hchk hd ha hsd hq hN hJ
  | astore_n a9 => exact ok_astore_n hLk C hchk hd ha hsd hq hN hJ
  | lstore a9 => exact ok_lstore hLk C hchk hd ha hsd hq hN hJ
  | lstore_n a9 => exact ok_lstore_n hLk C hchk hd ha hsd hq hN hJ
  | goto a9 => exact ok_goto hLk C hchk hd ha hsd hq hN hJ
  | getstatic a9 => exact ok_getstatic hLk C hchk hd ha hsd hq hN hJ
  | getfield a9 => exact ok_getfield hLk C hchk hd ha hsd hq hN hJ
  | putfield a9 => exact ok_putfield hLk C hchk hd ha hsd hq hN hJ
  | iinc a9 b9 => exact ok_iinc hLk C hchk hd ha hsd hq hN hJ
  | ifCond a9 b9 => exact ok_ifCond hLk C hchk hd ha hsd hq hN hJ
  | if_icmp a9 b9 => exact ok_if_icmp hLk C hchk hd ha hsd hq hN hJ
  | tableswitch a9 b9 c9 d9 => exact ok_tableswitch hLk C hchk hd ha hsd hq hN hJ
  | new a9 => exact ok_new hLk C hz0 hn0 hB hchk hd ha hsd hq hN hJ
  | newarray a9 => exact ok_newarray hLk C hz0 hn0 hB hchk hd ha hsd hq hN hJ
  | multianewarray a9 b9 => exact ok_multianewarray hLk C hz0 hn0 hB hchk hd ha hsd hq hN hJ
  | _ =>
    rw [m_act_eq] at ha
    cases ha
/-- what the calls of a body must give -/
def g_calls (p : Program) (l : Launch) (e : Env) (R : Room) (s : State) (m : MethodId) (args : Array Value) (below : List Frame) (meth : Method) (c : Code) (Q : State → Prop) (g : mG) (nL n0 s0 : Nat) (B : Option (Nat × Nat)) (call : mC) (P : List mI) : Prop :=
  ∀ (i : Nat) (e0 : mI), P[i]? = some e0 → (∃ k, e0.2.2.2.1 = .invokestatic k ∨ e0.2.2.2.1 = .invokevirtual k ∨ e0.2.2.2.1 = .invokespecial k) → ∀ (r : List mI) (ls : mL) (st : List Value) (h : mH) (X : List mI → mL → List Value → mH → Prop),
    m_inv B call e0.2.2.2.2.2.1 r ls st h X → (∀ ls st h, X r ls st h → g_K p l e R s m args below meth c Q g nL n0 s0 B (e0.2.2.1 + e0.2.2.2.2.1) ls st h) → g_K p l e R s m args below meth c Q g nL n0 s0 B e0.2.2.1 ls st h
/-- what its returns must give -/
def g_rets (p : Program) (l : Launch) (e : Env) (R : Room) (s : State) (m : MethodId) (args : Array Value) (below : List Frame) (meth : Method) (c : Code) (Q : State → Prop) (g : mG) (nL n0 s0 : Nat) (B : Option (Nat × Nat)) (Qa : Option Value → mH → Prop) (P : List mI) : Prop :=
  ∀ (i : Nat) (e0 : mI), P[i]? = some e0 → ∀ (ls : mL) (h : mH),
    (e0.2.2.2.1 = .ireturn → ∀ x : Int32, (e0.2.2.2.2.2.1 = [] ∨ x = 0 ∨ x = 1) → m_end B h (Qa (some (.int x)) h) → g_K p l e R s m args below meth c Q g nL n0 s0 B e0.2.2.1 ls [.int x] h) ∧
    (e0.2.2.2.1 = .lreturn → ∀ x : Int64, m_end B h (Qa (some (.long x)) h) → g_K p l e R s m args below meth c Q g nL n0 s0 B e0.2.2.1 ls [.long x] h) ∧
    (e0.2.2.2.1 = .return_ → m_end B h (Qa none h) → g_K p l e R s m args below meth c Q g nL n0 s0 B e0.2.2.1 ls [] h)
def g_X (p : Program) (l : Launch) (e : Env) (R : Room) (s : State) (m : MethodId) (args : Array Value) (below : List Frame) (meth : Method) (c : Code) (Q : State → Prop) (g : mG) (nL n0 s0 : Nat) (B : Option (Nat × Nat)) (P : List mI) (c0 : List mI) (ls : mL) (st : List Value) (h : mH) : Prop := match c0 with
  | [] => False
  | e0 :: _ => m_suf P c0 → g_K p l e R s m args below meth c Q g nL n0 s0 B e0.2.2.1 ls st h
set_option maxHeartbeats 4000000 in
theorem m_body (hLk : m_Lk FL SL CL KI KL) (C : g_Cx g p s m args meth c cc o ii) (hz0 : s.heap.size = g.2.2.1 + (n0 - 5)) (hn0 : 5 ≤ n0) (hB : ∀ b, B = some b → b.1 ≤ n0 + R.cells ∧ b.2 ≤ s0 + R.slots)
    (hF : m_fits cc (m_chk1 FL SL CL KI KL ii o P) P) {call : mC} {Qa : Option Value → mH → Prop} (hC : g_calls p l e R s m args below meth c Q g nL n0 s0 B call P) (hR : g_rets p l e R s m args below meth c Q g nL n0 s0 B Qa P)
    {c0 : List mI} {ls : mL} {st : List Value} {h : mH} (H : WPe P B call Qa c0 ls st h) : g_X p l e R s m args below meth c Q g nL n0 s0 B P c0 ls st h := by
  refine H (g_X p l e R s m args below meth c Q g nL n0 s0 B P) ?_
  clear H
  intro c0 ls st h H
  match c0, H with
  | [], H => exact H
  | e0 :: r, H =>
    intro hs
    have hsr := hs.tail
    obtain ⟨j, hj⟩ := hs
    obtain ⟨hat, hr⟩ := m_drop_cons hj.symm
    obtain ⟨f1, f2, f3, f4⟩ := hF j e0 hat
    have hN : ∀ ls st h, g_X p l e R s m args below meth c Q g nL n0 s0 B P r ls st h → g_K p l e R s m args below meth c Q g nL n0 s0 B (e0.2.2.1 + e0.2.2.2.2.1) ls st h := by
      intro ls st h hh
      match r, hr, hsr, hh with
      | [], _, _, hh => exact hh.elim
      | e1 :: r1, hr, hsr, hh =>
        have h1 := (m_drop_cons hr.symm).1
        rw [← f4 e1 h1]
        exact hh hsr
    have hJ : ∀ (t : Nat) (e' : mI), P[t]? = some e' → ∀ ls st h, g_X p l e R s m args below meth c Q g nL n0 s0 B P (m_drop P t) ls st h → g_K p l e R s m args below meth c Q g nL n0 s0 B e'.2.2.1 ls st h := by
      intro t e' he ls st h hh
      have hd : m_drop P t = e' :: m_drop P (t + 1) := by
        rw [m_drop_eq, m_drop_eq]
        have hl := (List.getElem?_eq_some_iff.mp he).1
        rw [List.drop_eq_getElem_cons hl]
        congr 1
        exact (List.getElem?_eq_some_iff.mp he).2
      rw [hd] at hh
      exact hh ⟨t, hd.symm⟩
    unfold m_stp at H
    dsimp only at H
    have hcC := hC j e0 hat
    have hcR := hR j e0 hat ls h
    obtain ⟨sp, ix, pc, ins, len, an, kv, kl⟩ := e0
    dsimp only at H hcC hcR hN f2 f3 ⊢
    split at H
    · exact hcC ⟨_, Or.inl rfl⟩ r ls st h _ H hN
    · exact hcC ⟨_, Or.inr (Or.inl rfl)⟩ r ls st h _ H hN
    · exact hcC ⟨_, Or.inr (Or.inr rfl)⟩ r ls st h _ H hN
    · split at H
      · exact hcR.1 rfl _ (Or.inl rfl) H
      · exact hcR.1 rfl _ (Or.inr H.1) H.2
      · exact H.elim
    · split at H
      · exact hcR.2.1 rfl _ H
      · exact H.elim
    · split at H
      · exact hcR.2.2 rfl H
      · exact H.elim
    · split at H
      · rename_i ha
        exact m_act_ok hLk C hz0 hn0 hB f2 f3 ha (fun x hx => by cases hx) H hN hJ
      · rename_i ha
        exact m_act_ok hLk C hz0 hn0 hB f2 f3 ha (fun x hx => by cases hx; exact H.1) H.2 hN hJ
      · exact H.elim
end Sound
