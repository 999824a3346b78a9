def RX0 : String := "EbbIsland$Ferry"
def TX0 : u_T := fun k => match k with
  | 0 => ("EbbIsland$Ferry", "island", "LEbbIsland$Island;", false)
  | 1 => ("EbbIsland$Ferry", "levels", "[B", true)
  | 2 => ("EbbIsland$Ferry", "levelDays", "J", false)
  | 3 => ("EbbIsland$Ferry", "soonestKnown", "[I", true)
  | 4 => ("EbbIsland$Ferry", "safe", "[J", true)
  | 5 => ("EbbIsland$Ferry", "places", "[J", true)
  | 6 => ("EbbIsland$Ferry", "takers", "[I", true)
  | 7 => ("EbbIsland$Ferry", "home", "I", false)
  | _ => ("EbbIsland$Ferry", "step", "I", false)
def tyX0 : Nat → FieldType := fun k => match k with
  | 0 => .object "EbbIsland$Island"
  | 1 => .array .byte
  | 2 => .long
  | 3 => .array .int
  | 4 => .array .long
  | 5 => .array .long
  | 6 => .array .int
  | 7 => .int
  | _ => .int
abbrev wsX00 : List Cond := u_ws RX0 TX0 9
theorem nmX0 : ∀ a, a < 9 → ∀ b, b < 9 → a ≠ b → (TX0 a).2.1 ≠ (TX0 b).2.1 := by decide +kernel
theorem tyX0_ok : ∀ k, k < 9 → parseFieldDescriptor (TX0 k).2.2.1 = some (tyX0 k) := by decide +kernel
abbrev cX0_init : ByteArray := prog_2_method_1_code
def yX0_init : MethodName := ⟨RX0, "<init>", "(LEbbIsland$Island;)V"⟩
abbrev cX0_enter : ByteArray := prog_2_method_2_code
def yX0_enter : MethodName := ⟨RX0, "enter", "(LEbbIsland$Island;)V"⟩
abbrev cX0_levelOn : ByteArray := prog_2_method_3_code
def yX0_levelOn : MethodName := ⟨RX0, "levelOn", "(II)I"⟩
abbrev cX0_learnLevels : ByteArray := prog_2_method_4_code
def yX0_learnLevels : MethodName := ⟨RX0, "learnLevels", "(I)V"⟩
abbrev cX0_arrival : ByteArray := prog_2_method_5_code
def yX0_arrival : MethodName := ⟨RX0, "arrival", "(III)I"⟩
abbrev cX0_arrivalInFog : ByteArray := prog_2_method_6_code
def yX0_arrivalInFog : MethodName := ⟨RX0, "arrivalInFog", "(IIII)I"⟩
abbrev cX0_arrivalInWind : ByteArray := prog_2_method_7_code
def yX0_arrivalInWind : MethodName := ⟨RX0, "arrivalInWind", "(IIII)I"⟩
abbrev cX0_takersOn : ByteArray := prog_2_method_8_code
def yX0_takersOn : MethodName := ⟨RX0, "takersOn", "(II)[I"⟩
abbrev cX0_soonest : ByteArray := prog_2_method_9_code
def yX0_soonest : MethodName := ⟨RX0, "soonest", "(II)I"⟩
abbrev cX0_lastStart : ByteArray := prog_2_method_10_code
def yX0_lastStart : MethodName := ⟨RX0, "lastStart", "(II)I"⟩
abbrev cX0_trace : ByteArray := prog_2_method_11_code
def yX0_trace : MethodName := ⟨RX0, "trace", "(II[II)V"⟩
abbrev cX0_prepare : ByteArray := prog_2_method_12_code
def yX0_prepare : MethodName := ⟨RX0, "prepare", "(IIIII)V"⟩
abbrev cX0_firstArrival : ByteArray := prog_2_method_13_code
def yX0_firstArrival : MethodName := ⟨RX0, "firstArrival", "(I)I"⟩
abbrev cX0_safeFrom : ByteArray := prog_2_method_14_code
def yX0_safeFrom : MethodName := ⟨RX0, "safeFrom", "(I)J"⟩
abbrev cX0_cellsBefore : ByteArray := prog_2_method_15_code
def yX0_cellsBefore : MethodName := ⟨RX0, "cellsBefore", "(II)J"⟩
abbrev cX0_nextCell : ByteArray := prog_2_method_16_code
def yX0_nextCell : MethodName := ⟨RX0, "nextCell", "(III)I"⟩
def RX1 : String := "EbbIsland$Island"
def TX1 : u_T := fun k => match k with
  | 0 => ("EbbIsland$Island", "sands", "LEbbIsland$Sands;", true)
  | 1 => ("EbbIsland$Island", "rule", "LEbbIsland$Rule;", true)
  | 2 => ("EbbIsland$Island", "parties", "[LEbbIsland$Party;", true)
  | 3 => ("EbbIsland$Island", "partyCount", "I", false)
  | 4 => ("EbbIsland$Island", "quarrels", "I", false)
  | 5 => ("EbbIsland$Island", "wind", "I", false)
  | 6 => ("EbbIsland$Island", "ebb", "I", false)
  | 7 => ("EbbIsland$Island", "wait", "I", false)
  | _ => ("EbbIsland$Island", "fog", "[I", true)
def tyX1 : Nat → FieldType := fun k => match k with
  | 0 => .object "EbbIsland$Sands"
  | 1 => .object "EbbIsland$Rule"
  | 2 => .array (.object "EbbIsland$Party")
  | 3 => .int
  | 4 => .int
  | 5 => .int
  | 6 => .int
  | 7 => .int
  | _ => .array .int
abbrev wsX10 : List Cond := u_ws RX1 TX1 9
theorem nmX1 : ∀ a, a < 9 → ∀ b, b < 9 → a ≠ b → (TX1 a).2.1 ≠ (TX1 b).2.1 := by decide +kernel
theorem tyX1_ok : ∀ k, k < 9 → parseFieldDescriptor (TX1 k).2.2.1 = some (tyX1 k) := by decide +kernel
abbrev cX1_init : ByteArray := prog_3_method_1_code
def yX1_init : MethodName := ⟨RX1, "<init>", "()V"⟩
abbrev cX1_clear : ByteArray := prog_3_method_2_code
def yX1_clear : MethodName := ⟨RX1, "clear", "()V"⟩
abbrev cX1_fogWeight : ByteArray := prog_3_method_3_code
def yX1_fogWeight : MethodName := ⟨RX1, "fogWeight", "()I"⟩
abbrev cX1_strengthOf : ByteArray := prog_3_method_4_code
def yX1_strengthOf : MethodName := ⟨RX1, "strengthOf", "(I)I"⟩
def RX2 : String := "EbbIsland$Ledger"
def TX2 : u_T := fun k => match k with
  | 0 => ("EbbIsland$Ledger", "party", "[I", true)
  | 1 => ("EbbIsland$Ledger", "day", "[I", true)
  | 2 => ("EbbIsland$Ledger", "first", "[I", true)
  | 3 => ("EbbIsland$Ledger", "last", "[I", true)
  | 4 => ("EbbIsland$Ledger", "ways", "[I", true)
  | 5 => ("EbbIsland$Ledger", "bookedCount", "I", false)
  | 6 => ("EbbIsland$Ledger", "sankCell", "[I", true)
  | 7 => ("EbbIsland$Ledger", "sankDay", "[I", true)
  | 8 => ("EbbIsland$Ledger", "sankBits", "I", false)
  | 9 => ("EbbIsland$Ledger", "sankCount", "I", false)
  | _ => ("EbbIsland$Ledger", "refused", "[I", true)
def tyX2 : Nat → FieldType := fun k => match k with
  | 0 => .array .int
  | 1 => .array .int
  | 2 => .array .int
  | 3 => .array .int
  | 4 => .array .int
  | 5 => .int
  | 6 => .array .int
  | 7 => .array .int
  | 8 => .int
  | 9 => .int
  | _ => .array .int
abbrev wsX20 : List Cond := u_ws RX2 TX2 11
theorem nmX2 : ∀ a, a < 11 → ∀ b, b < 11 → a ≠ b → (TX2 a).2.1 ≠ (TX2 b).2.1 := by decide +kernel
theorem tyX2_ok : ∀ k, k < 11 → parseFieldDescriptor (TX2 k).2.2.1 = some (tyX2 k) := by decide +kernel
abbrev cX2_init : ByteArray := prog_4_method_1_code
def yX2_init : MethodName := ⟨RX2, "<init>", "()V"⟩
abbrev cX2_copyFrom : ByteArray := prog_4_method_2_code
def yX2_copyFrom : MethodName := ⟨RX2, "copyFrom", "(LEbbIsland$Ledger;)V"⟩
abbrev cX2_hasParty : ByteArray := prog_4_method_3_code
def yX2_hasParty : MethodName := ⟨RX2, "hasParty", "(I)Z"⟩
abbrev cX2_partiesOn : ByteArray := prog_4_method_4_code
def yX2_partiesOn : MethodName := ⟨RX2, "partiesOn", "(I)I"⟩
abbrev cX2_placeOf : ByteArray := prog_4_method_5_code
def yX2_placeOf : MethodName := ⟨RX2, "placeOf", "(II)I"⟩
abbrev cX2_firstCrowd : ByteArray := prog_4_method_6_code
def yX2_firstCrowd : MethodName := ⟨RX2, "firstCrowd", "(IJI)I"⟩
def RX3 : String := "EbbIsland$Party"
def TX3 : u_T := fun k => match k with
  | 0 => ("EbbIsland$Party", "kind", "I", false)
  | 1 => ("EbbIsland$Party", "speed", "I", false)
  | 2 => ("EbbIsland$Party", "load", "I", false)
  | 3 => ("EbbIsland$Party", "row", "I", false)
  | 4 => ("EbbIsland$Party", "died", "I", false)
  | _ => ("EbbIsland$Party", "foes", "I", false)
def tyX3 : Nat → FieldType := fun k => match k with
  | 0 => .int
  | 1 => .int
  | 2 => .int
  | 3 => .int
  | 4 => .int
  | _ => .int
abbrev wsX30 : List Cond := u_ws RX3 TX3 6
theorem nmX3 : ∀ a, a < 6 → ∀ b, b < 6 → a ≠ b → (TX3 a).2.1 ≠ (TX3 b).2.1 := by decide +kernel
theorem tyX3_ok : ∀ k, k < 6 → parseFieldDescriptor (TX3 k).2.2.1 = some (tyX3 k) := by decide +kernel
abbrev cX3_init : ByteArray := prog_5_method_1_code
def yX3_init : MethodName := ⟨RX3, "<init>", "()V"⟩
def RX4 : String := "EbbIsland$Planner"
def TX4 : u_T := fun k => match k with
  | 0 => ("EbbIsland$Planner", "ferry", "LEbbIsland$Ferry;", true)
  | 1 => ("EbbIsland$Planner", "openDays", "[J", true)
  | 2 => ("EbbIsland$Planner", "together", "[Z", true)
  | 3 => ("EbbIsland$Planner", "fewest", "[I", true)
  | _ => ("EbbIsland$Planner", "planned", "[I", true)
def tyX4 : Nat → FieldType := fun k => match k with
  | 0 => .object "EbbIsland$Ferry"
  | 1 => .array .long
  | 2 => .array .boolean
  | 3 => .array .int
  | _ => .array .int
abbrev wsX40 : List Cond := u_ws RX4 TX4 5
theorem nmX4 : ∀ a, a < 5 → ∀ b, b < 5 → a ≠ b → (TX4 a).2.1 ≠ (TX4 b).2.1 := by decide +kernel
theorem tyX4_ok : ∀ k, k < 5 → parseFieldDescriptor (TX4 k).2.2.1 = some (tyX4 k) := by decide +kernel
abbrev cX4_init : ByteArray := prog_6_method_1_code
def yX4_init : MethodName := ⟨RX4, "<init>", "(LEbbIsland$Ferry;)V"⟩
abbrev cX4_plannedDay : ByteArray := prog_6_method_2_code
def yX4_plannedDay : MethodName := ⟨RX4, "plannedDay", "(I)I"⟩
abbrev cX4_plan : ByteArray := prog_6_method_3_code
def yX4_plan : MethodName := ⟨RX4, "plan", "()I"⟩
abbrev cX4_firstDay : ByteArray := prog_6_method_4_code
def yX4_firstDay : MethodName := ⟨RX4, "firstDay", "(II)I"⟩
abbrev cX4_findTogether : ByteArray := prog_6_method_5_code
def yX4_findTogether : MethodName := ⟨RX4, "findTogether", "()V"⟩
abbrev cX4_fewestEbbs : ByteArray := prog_6_method_6_code
def yX4_fewestEbbs : MethodName := ⟨RX4, "fewestEbbs", "()I"⟩
abbrev cX4_partiesOpenOn : ByteArray := prog_6_method_7_code
def yX4_partiesOpenOn : MethodName := ⟨RX4, "partiesOpenOn", "(I)I"⟩
abbrev cX4_dayInQueue : ByteArray := prog_6_method_8_code
def yX4_dayInQueue : MethodName := ⟨RX4, "dayInQueue", "(I)I"⟩
abbrev cX4_buriedOn : ByteArray := prog_6_method_9_code
def yX4_buriedOn : MethodName := ⟨RX4, "buriedOn", "(II)I"⟩
abbrev cX4_rankOf : ByteArray := prog_6_method_10_code
def yX4_rankOf : MethodName := ⟨RX4, "rankOf", "(I)I"⟩
abbrev cX4_comingOf : ByteArray := prog_6_method_11_code
def yX4_comingOf : MethodName := ⟨RX4, "comingOf", "(I)I"⟩
def RX5 : String := "EbbIsland$Reader"
def TX5 : u_T := fun k => match k with
  | 0 => ("EbbIsland$Reader", "tokens", "LEbbIsland$Tokens;", true)
  | 1 => ("EbbIsland$Reader", "rules", "LEbbIsland$RuleReader;", true)
  | 2 => ("EbbIsland$Reader", "target", "LEbbIsland$Island;", false)
  | 3 => ("EbbIsland$Reader", "linesTold", "I", false)
  | _ => ("EbbIsland$Reader", "number", "I", false)
def tyX5 : Nat → FieldType := fun k => match k with
  | 0 => .object "EbbIsland$Tokens"
  | 1 => .object "EbbIsland$RuleReader"
  | 2 => .object "EbbIsland$Island"
  | 3 => .int
  | _ => .int
abbrev wsX50 : List Cond := u_ws RX5 TX5 5
theorem nmX5 : ∀ a, a < 5 → ∀ b, b < 5 → a ≠ b → (TX5 a).2.1 ≠ (TX5 b).2.1 := by decide +kernel
theorem tyX5_ok : ∀ k, k < 5 → parseFieldDescriptor (TX5 k).2.2.1 = some (tyX5 k) := by decide +kernel
abbrev cX5_init : ByteArray := prog_7_method_1_code
def yX5_init : MethodName := ⟨RX5, "<init>", "([B)V"⟩
abbrev cX5_faultPlace : ByteArray := prog_7_method_2_code
def yX5_faultPlace : MethodName := ⟨RX5, "faultPlace", "()I"⟩
abbrev cX5_readAll : ByteArray := prog_7_method_3_code
def yX5_readAll : MethodName := ⟨RX5, "readAll", "(ILEbbIsland$Island;)I"⟩
abbrev cX5_readSands : ByteArray := prog_7_method_4_code
def yX5_readSands : MethodName := ⟨RX5, "readSands", "()Z"⟩
abbrev cX5_readLine : ByteArray := prog_7_method_5_code
def yX5_readLine : MethodName := ⟨RX5, "readLine", "()Z"⟩
abbrev cX5_lineNumber : ByteArray := prog_7_method_6_code
def yX5_lineNumber : MethodName := ⟨RX5, "lineNumber", "()I"⟩
abbrev cX5_singleLineNumber : ByteArray := prog_7_method_7_code
def yX5_singleLineNumber : MethodName := ⟨RX5, "singleLineNumber", "()I"⟩
abbrev cX5_isFirst : ByteArray := prog_7_method_8_code
def yX5_isFirst : MethodName := ⟨RX5, "isFirst", "(I)Z"⟩
abbrev cX5_takeNumber : ByteArray := prog_7_method_9_code
def yX5_takeNumber : MethodName := ⟨RX5, "takeNumber", "(II)Z"⟩
abbrev cX5_takeSigned : ByteArray := prog_7_method_10_code
def yX5_takeSigned : MethodName := ⟨RX5, "takeSigned", "()Z"⟩
abbrev cX5_takeCell : ByteArray := prog_7_method_11_code
def yX5_takeCell : MethodName := ⟨RX5, "takeCell", "(J)Z"⟩
abbrev cX5_readHeight : ByteArray := prog_7_method_12_code
def yX5_readHeight : MethodName := ⟨RX5, "readHeight", "()Z"⟩
abbrev cX5_readRock : ByteArray := prog_7_method_13_code
def yX5_readRock : MethodName := ⟨RX5, "readRock", "()Z"⟩
abbrev cX5_readLadder : ByteArray := prog_7_method_14_code
def yX5_readLadder : MethodName := ⟨RX5, "readLadder", "()Z"⟩
abbrev cX5_readQuick : ByteArray := prog_7_method_15_code
def yX5_readQuick : MethodName := ⟨RX5, "readQuick", "()Z"⟩
abbrev cX5_readMoves : ByteArray := prog_7_method_16_code
def yX5_readMoves : MethodName := ⟨RX5, "readMoves", "()Z"⟩
abbrev cX5_readWind : ByteArray := prog_7_method_17_code
def yX5_readWind : MethodName := ⟨RX5, "readWind", "()Z"⟩
abbrev cX5_readEbb : ByteArray := prog_7_method_18_code
def yX5_readEbb : MethodName := ⟨RX5, "readEbb", "()Z"⟩
abbrev cX5_readWait : ByteArray := prog_7_method_19_code
def yX5_readWait : MethodName := ⟨RX5, "readWait", "()Z"⟩
abbrev cX5_readParty : ByteArray := prog_7_method_20_code
def yX5_readParty : MethodName := ⟨RX5, "readParty", "(I)Z"⟩
abbrev cX5_readQuarrel : ByteArray := prog_7_method_21_code
def yX5_readQuarrel : MethodName := ⟨RX5, "readQuarrel", "()Z"⟩
abbrev cX5_isParty : ByteArray := prog_7_method_22_code
def yX5_isParty : MethodName := ⟨RX5, "isParty", "()Z"⟩
abbrev cX5_readFog : ByteArray := prog_7_method_23_code
def yX5_readFog : MethodName := ⟨RX5, "readFog", "()Z"⟩
def RX6 : String := "EbbIsland$Rule"
def TX6 : u_T := fun k => match k with
  | 0 => ("EbbIsland$Rule", "code", "[I", true)
  | 1 => ("EbbIsland$Rule", "stack", "[I", true)
  | _ => ("EbbIsland$Rule", "length", "I", false)
def tyX6 : Nat → FieldType := fun k => match k with
  | 0 => .array .int
  | 1 => .array .int
  | _ => .int
abbrev wsX60 : List Cond := u_ws RX6 TX6 3
theorem nmX6 : ∀ a, a < 3 → ∀ b, b < 3 → a ≠ b → (TX6 a).2.1 ≠ (TX6 b).2.1 := by decide +kernel
theorem tyX6_ok : ∀ k, k < 3 → parseFieldDescriptor (TX6 k).2.2.1 = some (tyX6 k) := by decide +kernel
abbrev cX6_init : ByteArray := prog_8_method_1_code
def yX6_init : MethodName := ⟨RX6, "<init>", "()V"⟩
abbrev cX6_clear : ByteArray := prog_8_method_2_code
def yX6_clear : MethodName := ⟨RX6, "clear", "()V"⟩
abbrev cX6_add : ByteArray := prog_8_method_3_code
def yX6_add : MethodName := ⟨RX6, "add", "(I)V"⟩
abbrev cX6_level : ByteArray := prog_8_method_4_code
def yX6_level : MethodName := ⟨RX6, "level", "(III)I"⟩
abbrev cX6_usualLevel : ByteArray := prog_8_method_5_code
def yX6_usualLevel : MethodName := ⟨RX6, "usualLevel", "(I)I"⟩
abbrev cX6_valueOf : ByteArray := prog_8_method_6_code
def yX6_valueOf : MethodName := ⟨RX6, "valueOf", "(IIII)I"⟩
abbrev cX6_joined : ByteArray := prog_8_method_7_code
def yX6_joined : MethodName := ⟨RX6, "joined", "(III)I"⟩
def RX7 : String := "EbbIsland$RuleReader"
def TX7 : u_T := fun k => match k with
  | 0 => ("EbbIsland$RuleReader", "tokens", "LEbbIsland$Tokens;", true)
  | 1 => ("EbbIsland$RuleReader", "waiting", "[I", true)
  | 2 => ("EbbIsland$RuleReader", "waitingCount", "I", false)
  | 3 => ("EbbIsland$RuleReader", "rule", "LEbbIsland$Rule;", false)
  | 4 => ("EbbIsland$RuleReader", "depth", "I", false)
  | 5 => ("EbbIsland$RuleReader", "nots", "I", false)
  | 6 => ("EbbIsland$RuleReader", "comparedDepths", "I", false)
  | 7 => ("EbbIsland$RuleReader", "exprBegins", "Z", false)
  | 8 => ("EbbIsland$RuleReader", "notMayStand", "Z", false)
  | _ => ("EbbIsland$RuleReader", "partDue", "Z", false)
def tyX7 : Nat → FieldType := fun k => match k with
  | 0 => .object "EbbIsland$Tokens"
  | 1 => .array .int
  | 2 => .int
  | 3 => .object "EbbIsland$Rule"
  | 4 => .int
  | 5 => .int
  | 6 => .int
  | 7 => .boolean
  | 8 => .boolean
  | _ => .boolean
abbrev wsX70 : List Cond := u_ws RX7 TX7 10
theorem nmX7 : ∀ a, a < 10 → ∀ b, b < 10 → a ≠ b → (TX7 a).2.1 ≠ (TX7 b).2.1 := by decide +kernel
theorem tyX7_ok : ∀ k, k < 10 → parseFieldDescriptor (TX7 k).2.2.1 = some (tyX7 k) := by decide +kernel
abbrev cX7_init : ByteArray := prog_9_method_1_code
def yX7_init : MethodName := ⟨RX7, "<init>", "(LEbbIsland$Tokens;)V"⟩
abbrev cX7_readRule : ByteArray := prog_9_method_2_code
def yX7_readRule : MethodName := ⟨RX7, "readRule", "(LEbbIsland$Rule;)Z"⟩
abbrev cX7_beginExpr : ByteArray := prog_9_method_3_code
def yX7_beginExpr : MethodName := ⟨RX7, "beginExpr", "()V"⟩
abbrev cX7_beginTest : ByteArray := prog_9_method_4_code
def yX7_beginTest : MethodName := ⟨RX7, "beginTest", "()V"⟩
abbrev cX7_readPart : ByteArray := prog_9_method_5_code
def yX7_readPart : MethodName := ⟨RX7, "readPart", "()Z"⟩
abbrev cX7_readNumber : ByteArray := prog_9_method_6_code
def yX7_readNumber : MethodName := ⟨RX7, "readNumber", "()Z"⟩
abbrev cX7_readNot : ByteArray := prog_9_method_7_code
def yX7_readNot : MethodName := ⟨RX7, "readNot", "()Z"⟩
abbrev cX7_readValue : ByteArray := prog_9_method_8_code
def yX7_readValue : MethodName := ⟨RX7, "readValue", "()Z"⟩
abbrev cX7_readJoint : ByteArray := prog_9_method_9_code
def yX7_readJoint : MethodName := ⟨RX7, "readJoint", "()Z"⟩
abbrev cX7_jointOf : ByteArray := prog_9_method_10_code
def yX7_jointOf : MethodName := ⟨RX7, "jointOf", "()I"⟩
abbrev cX7_closeExpr : ByteArray := prog_9_method_11_code
def yX7_closeExpr : MethodName := ⟨RX7, "closeExpr", "()Z"⟩
abbrev cX7_hold : ByteArray := prog_9_method_12_code
def yX7_hold : MethodName := ⟨RX7, "hold", "(I)V"⟩
abbrev cX7_release : ByteArray := prog_9_method_13_code
def yX7_release : MethodName := ⟨RX7, "release", "(I)V"⟩
abbrev cX7_rankOfSign : ByteArray := prog_9_method_14_code
def yX7_rankOfSign : MethodName := ⟨RX7, "rankOfSign", "(I)I"⟩
def RX8 : String := "EbbIsland$Sands"
def TX8 : u_T := fun k => match k with
  | 0 => ("EbbIsland$Sands", "wide", "I", false)
  | 1 => ("EbbIsland$Sands", "deep", "I", false)
  | 2 => ("EbbIsland$Sands", "heights", "[I", true)
  | 3 => ("EbbIsland$Sands", "heightTold", "J", false)
  | 4 => ("EbbIsland$Sands", "rocks", "J", false)
  | 5 => ("EbbIsland$Sands", "ladders", "J", false)
  | 6 => ("EbbIsland$Sands", "quickCells", "[I", true)
  | 7 => ("EbbIsland$Sands", "quickCount", "I", false)
  | 8 => ("EbbIsland$Sands", "quickTold", "J", false)
  | 9 => ("EbbIsland$Sands", "moveX", "I", false)
  | 10 => ("EbbIsland$Sands", "moveY", "I", false)
  | 11 => ("EbbIsland$Sands", "all", "J", false)
  | 12 => ("EbbIsland$Sands", "shore", "J", false)
  | 13 => ("EbbIsland$Sands", "isle", "J", false)
  | _ => ("EbbIsland$Sands", "atLeast", "[J", true)
def tyX8 : Nat → FieldType := fun k => match k with
  | 0 => .int
  | 1 => .int
  | 2 => .array .int
  | 3 => .long
  | 4 => .long
  | 5 => .long
  | 6 => .array .int
  | 7 => .int
  | 8 => .long
  | 9 => .int
  | 10 => .int
  | 11 => .long
  | 12 => .long
  | 13 => .long
  | _ => .array .long
abbrev wsX80 : List Cond := u_ws RX8 TX8 15
theorem nmX8 : ∀ a, a < 15 → ∀ b, b < 15 → a ≠ b → (TX8 a).2.1 ≠ (TX8 b).2.1 := by decide +kernel
theorem tyX8_ok : ∀ k, k < 15 → parseFieldDescriptor (TX8 k).2.2.1 = some (tyX8 k) := by decide +kernel
abbrev cX8_init : ByteArray := prog_10_method_1_code
def yX8_init : MethodName := ⟨RX8, "<init>", "()V"⟩
abbrev cX8_clear : ByteArray := prog_10_method_2_code
def yX8_clear : MethodName := ⟨RX8, "clear", "(II)V"⟩
abbrev cX8_settle : ByteArray := prog_10_method_3_code
def yX8_settle : MethodName := ⟨RX8, "settle", "()V"⟩
abbrev cX8_groundOf : ByteArray := prog_10_method_4_code
def yX8_groundOf : MethodName := ⟨RX8, "groundOf", "(I)I"⟩
abbrev cX8_quickNow : ByteArray := prog_10_method_5_code
def yX8_quickNow : MethodName := ⟨RX8, "quickNow", "(I)J"⟩
abbrev cX8_quickBy : ByteArray := prog_10_method_6_code
def yX8_quickBy : MethodName := ⟨RX8, "quickBy", "(II)J"⟩
abbrev cX8_quickOn : ByteArray := prog_10_method_7_code
def yX8_quickOn : MethodName := ⟨RX8, "quickOn", "(III)J"⟩
abbrev cX8_firmFor : ByteArray := prog_10_method_8_code
def yX8_firmFor : MethodName := ⟨RX8, "firmFor", "(II)J"⟩
abbrev cX8_safeFor : ByteArray := prog_10_method_9_code
def yX8_safeFor : MethodName := ⟨RX8, "safeFor", "(IIIJ)J"⟩
abbrev cX8_beside : ByteArray := prog_10_method_10_code
def yX8_beside : MethodName := ⟨RX8, "beside", "(J)J"⟩
def RX9 : String := "EbbIsland$Tokens"
def TX9 : u_T := fun k => match k with
  | 0 => ("EbbIsland$Tokens", "text", "[B", true)
  | 1 => ("EbbIsland$Tokens", "length", "I", false)
  | 2 => ("EbbIsland$Tokens", "next", "I", false)
  | 3 => ("EbbIsland$Tokens", "from", "I", false)
  | 4 => ("EbbIsland$Tokens", "kind", "I", false)
  | 5 => ("EbbIsland$Tokens", "value", "I", false)
  | 6 => ("EbbIsland$Tokens", "fault", "I", false)
  | _ => ("EbbIsland$Tokens", "faultPlace", "I", false)
def tyX9 : Nat → FieldType := fun k => match k with
  | 0 => .array .byte
  | 1 => .int
  | 2 => .int
  | 3 => .int
  | 4 => .int
  | 5 => .int
  | 6 => .int
  | _ => .int
abbrev wsX90 : List Cond := u_ws RX9 TX9 8
theorem nmX9 : ∀ a, a < 8 → ∀ b, b < 8 → a ≠ b → (TX9 a).2.1 ≠ (TX9 b).2.1 := by decide +kernel
theorem tyX9_ok : ∀ k, k < 8 → parseFieldDescriptor (TX9 k).2.2.1 = some (tyX9 k) := by decide +kernel
abbrev cX9_init : ByteArray := prog_11_method_1_code
def yX9_init : MethodName := ⟨RX9, "<init>", "([B)V"⟩
abbrev cX9_open : ByteArray := prog_11_method_2_code
def yX9_open : MethodName := ⟨RX9, "open", "(I)V"⟩
abbrev cX9_refuse : ByteArray := prog_11_method_3_code
def yX9_refuse : MethodName := ⟨RX9, "refuse", "(I)Z"⟩
abbrev cX9_advance : ByteArray := prog_11_method_4_code
def yX9_advance : MethodName := ⟨RX9, "advance", "()V"⟩
abbrev cX9_signOf : ByteArray := prog_11_method_5_code
def yX9_signOf : MethodName := ⟨RX9, "signOf", "(I)I"⟩
abbrev cX9_isWord : ByteArray := prog_11_method_6_code
def yX9_isWord : MethodName := ⟨RX9, "isWord", "(Ljava/lang/String;)Z"⟩
abbrev cX9_isNumber : ByteArray := prog_11_method_7_code
def yX9_isNumber : MethodName := ⟨RX9, "isNumber", "(II)Z"⟩
abbrev cX9_takeSign : ByteArray := prog_11_method_8_code
def yX9_takeSign : MethodName := ⟨RX9, "takeSign", "(I)Z"⟩
def RX10 : String := "EbbIsland"
def TX10 : u_T := fun k => match k with
  | 0 => ("EbbIsland", "tape", "[B", true)
  | 1 => ("EbbIsland", "fed", "I", false)
  | 2 => ("EbbIsland", "reader", "LEbbIsland$Reader;", true)
  | 3 => ("EbbIsland", "faultPlace", "I", false)
  | 4 => ("EbbIsland", "here", "LEbbIsland$Island;", false)
  | 5 => ("EbbIsland", "spare", "LEbbIsland$Island;", false)
  | 6 => ("EbbIsland", "ferry", "LEbbIsland$Ferry;", true)
  | 7 => ("EbbIsland", "planner", "LEbbIsland$Planner;", true)
  | 8 => ("EbbIsland", "ledger", "LEbbIsland$Ledger;", true)
  | 9 => ("EbbIsland", "saved", "LEbbIsland$Ledger;", true)
  | 10 => ("EbbIsland", "hasImage", "Z", false)
  | 11 => ("EbbIsland", "keptWay", "[I", true)
  | 12 => ("EbbIsland", "keptFirst", "I", false)
  | 13 => ("EbbIsland", "keptLast", "I", false)
  | 14 => ("EbbIsland", "keptDays", "[I", true)
  | _ => ("EbbIsland", "hasDays", "Z", false)
def tyX10 : Nat → FieldType := fun k => match k with
  | 0 => .array .byte
  | 1 => .int
  | 2 => .object "EbbIsland$Reader"
  | 3 => .int
  | 4 => .object "EbbIsland$Island"
  | 5 => .object "EbbIsland$Island"
  | 6 => .object "EbbIsland$Ferry"
  | 7 => .object "EbbIsland$Planner"
  | 8 => .object "EbbIsland$Ledger"
  | 9 => .object "EbbIsland$Ledger"
  | 10 => .boolean
  | 11 => .array .int
  | 12 => .int
  | 13 => .int
  | 14 => .array .int
  | _ => .boolean
abbrev wsX100 : List Cond := u_ws RX10 TX10 16
theorem nmX10 : ∀ a, a < 16 → ∀ b, b < 16 → a ≠ b → (TX10 a).2.1 ≠ (TX10 b).2.1 := by decide +kernel
theorem tyX10_ok : ∀ k, k < 16 → parseFieldDescriptor (TX10 k).2.2.1 = some (tyX10 k) := by decide +kernel
abbrev cX10_init : ByteArray := prog_1_method_1_code
def yX10_init : MethodName := ⟨RX10, "<init>", "()V"⟩
abbrev cX10_feed : ByteArray := prog_1_method_2_code
def yX10_feed : MethodName := ⟨RX10, "feed", "(IIIII)I"⟩
abbrev cX10_island : ByteArray := prog_1_method_3_code
def yX10_island : MethodName := ⟨RX10, "island", "(I)I"⟩
abbrev cX10_fault : ByteArray := prog_1_method_4_code
def yX10_fault : MethodName := ⟨RX10, "fault", "()I"⟩
abbrev cX10_count : ByteArray := prog_1_method_5_code
def yX10_count : MethodName := ⟨RX10, "count", "(I)I"⟩
abbrev cX10_cell : ByteArray := prog_1_method_6_code
def yX10_cell : MethodName := ⟨RX10, "cell", "(II)I"⟩
abbrev cX10_quick : ByteArray := prog_1_method_7_code
def yX10_quick : MethodName := ⟨RX10, "quick", "(II)Z"⟩
abbrev cX10_water : ByteArray := prog_1_method_8_code
def yX10_water : MethodName := ⟨RX10, "water", "(II)I"⟩
abbrev cX10_party : ByteArray := prog_1_method_9_code
def yX10_party : MethodName := ⟨RX10, "party", "(II)I"⟩
abbrev cX10_may : ByteArray := prog_1_method_10_code
def yX10_may : MethodName := ⟨RX10, "may", "(IIII)Z"⟩
abbrev cX10_cross : ByteArray := prog_1_method_11_code
def yX10_cross : MethodName := ⟨RX10, "cross", "(III)I"⟩
abbrev cX10_way : ByteArray := prog_1_method_12_code
def yX10_way : MethodName := ⟨RX10, "way", "(I)I"⟩
abbrev cX10_starts : ByteArray := prog_1_method_13_code
def yX10_starts : MethodName := ⟨RX10, "starts", "(III)I"⟩
abbrev cX10_book : ByteArray := prog_1_method_14_code
def yX10_book : MethodName := ⟨RX10, "book", "(III)I"⟩
abbrev cX10_undo : ByteArray := prog_1_method_15_code
def yX10_undo : MethodName := ⟨RX10, "undo", "()I"⟩
abbrev cX10_booked : ByteArray := prog_1_method_16_code
def yX10_booked : MethodName := ⟨RX10, "booked", "(II)I"⟩
abbrev cX10_at : ByteArray := prog_1_method_17_code
def yX10_at : MethodName := ⟨RX10, "at", "(II)I"⟩
abbrev cX10_met : ByteArray := prog_1_method_18_code
def yX10_met : MethodName := ⟨RX10, "met", "(II)I"⟩
abbrev cX10_crowded : ByteArray := prog_1_method_19_code
def yX10_crowded : MethodName := ⟨RX10, "crowded", "(I)I"⟩
abbrev cX10_leave : ByteArray := prog_1_method_20_code
def yX10_leave : MethodName := ⟨RX10, "leave", "(I)I"⟩
abbrev cX10_burials : ByteArray := prog_1_method_21_code
def yX10_burials : MethodName := ⟨RX10, "burials", "()I"⟩
abbrev cX10_buried : ByteArray := prog_1_method_22_code
def yX10_buried : MethodName := ⟨RX10, "buried", "(I)I"⟩
abbrev cX10_queue : ByteArray := prog_1_method_23_code
def yX10_queue : MethodName := ⟨RX10, "queue", "(I)I"⟩
abbrev cX10_heir : ByteArray := prog_1_method_24_code
def yX10_heir : MethodName := ⟨RX10, "heir", "(I)I"⟩
abbrev cX10_sink : ByteArray := prog_1_method_25_code
def yX10_sink : MethodName := ⟨RX10, "sink", "(IIZ)I"⟩
abbrev cX10_forget : ByteArray := prog_1_method_26_code
def yX10_forget : MethodName := ⟨RX10, "forget", "()I"⟩
abbrev cX10_motions : ByteArray := prog_1_method_27_code
def yX10_motions : MethodName := ⟨RX10, "motions", "(I)I"⟩
abbrev cX10_sound : ByteArray := prog_1_method_28_code
def yX10_sound : MethodName := ⟨RX10, "sound", "(IZ)J"⟩
abbrev cX10_late : ByteArray := prog_1_method_29_code
def yX10_late : MethodName := ⟨RX10, "late", "(III)I"⟩
abbrev cX10_costs : ByteArray := prog_1_method_30_code
def yX10_costs : MethodName := ⟨RX10, "costs", "(IIII)I"⟩
abbrev cX10_vigil : ByteArray := prog_1_method_31_code
def yX10_vigil : MethodName := ⟨RX10, "vigil", "(IIII)I"⟩
abbrev cX10_rents : ByteArray := prog_1_method_32_code
def yX10_rents : MethodName := ⟨RX10, "rents", "(III)I"⟩
abbrev cX10_warning : ByteArray := prog_1_method_33_code
def yX10_warning : MethodName := ⟨RX10, "warning", "(III)I"⟩
abbrev cX10_fogs : ByteArray := prog_1_method_34_code
def yX10_fogs : MethodName := ⟨RX10, "fogs", "(IIII)I"⟩
abbrev cX10_image : ByteArray := prog_1_method_35_code
def yX10_image : MethodName := ⟨RX10, "image", "()V"⟩
abbrev cX10_restore : ByteArray := prog_1_method_36_code
def yX10_restore : MethodName := ⟨RX10, "restore", "()Z"⟩
abbrev cX10_putBytes : ByteArray := prog_1_method_37_code
def yX10_putBytes : MethodName := ⟨RX10, "putBytes", "(I)V"⟩
abbrev cX10_needCell : ByteArray := prog_1_method_38_code
def yX10_needCell : MethodName := ⟨RX10, "needCell", "(I)V"⟩
abbrev cX10_needDay : ByteArray := prog_1_method_39_code
def yX10_needDay : MethodName := ⟨RX10, "needDay", "(I)V"⟩
abbrev cX10_needTick : ByteArray := prog_1_method_40_code
def yX10_needTick : MethodName := ⟨RX10, "needTick", "(I)V"⟩
abbrev cX10_needParty : ByteArray := prog_1_method_41_code
def yX10_needParty : MethodName := ⟨RX10, "needParty", "(I)V"⟩
abbrev cX10_needStart : ByteArray := prog_1_method_42_code
def yX10_needStart : MethodName := ⟨RX10, "needStart", "(III)V"⟩
abbrev cX10_needBooked : ByteArray := prog_1_method_43_code
def yX10_needBooked : MethodName := ⟨RX10, "needBooked", "(I)V"⟩
abbrev cX10_mayBook : ByteArray := prog_1_method_44_code
def yX10_mayBook : MethodName := ⟨RX10, "mayBook", "(II)Z"⟩
abbrev cX10_fits : ByteArray := prog_1_method_45_code
def yX10_fits : MethodName := ⟨RX10, "fits", "(I)Z"⟩
abbrev cX10_has : ByteArray := prog_1_method_46_code
def yX10_has : MethodName := ⟨RX10, "has", "(JI)Z"⟩
abbrev cX10_commonPart : ByteArray := prog_1_method_47_code
def yX10_commonPart : MethodName := ⟨RX10, "commonPart", "(II)I"⟩
abbrev cX10_rests : ByteArray := prog_1_method_48_code
def yX10_rests : MethodName := ⟨RX10, "rests", "([III)Z"⟩
abbrev cX10_gainOfHorses : ByteArray := prog_1_method_49_code
def yX10_gainOfHorses : MethodName := ⟨RX10, "gainOfHorses", "([III)I"⟩
abbrev cX10_gainOfStilts : ByteArray := prog_1_method_50_code
def yX10_gainOfStilts : MethodName := ⟨RX10, "gainOfStilts", "([III)I"⟩
def RX11 : String := "EbbIslandModel"
def TX11 : u_T := fun k => match k with
  | 0 => ("EbbIslandModel", "kinds", "[Ljava/lang/String;", true)
  | 1 => ("EbbIslandModel", "values", "[Ljava/lang/String;", true)
  | 2 => ("EbbIslandModel", "code", "I", false)
  | 3 => ("EbbIslandModel", "told", "[I", true)
  | 4 => ("EbbIslandModel", "height", "[I", true)
  | 5 => ("EbbIslandModel", "what", "[I", true)
  | 6 => ("EbbIslandModel", "quickAt", "[I", true)
  | 7 => ("EbbIslandModel", "kind", "[I", true)
  | 8 => ("EbbIslandModel", "speed", "[I", true)
  | 9 => ("EbbIslandModel", "load", "[I", true)
  | 10 => ("EbbIslandModel", "row", "[I", true)
  | 11 => ("EbbIslandModel", "died", "[I", true)
  | 12 => ("EbbIslandModel", "quarrels", "[I", true)
  | 13 => ("EbbIslandModel", "signs", "[I", true)
  | 14 => ("EbbIslandModel", "status", "[I", true)
  | 15 => ("EbbIslandModel", "isTold", "[Z", true)
  | 16 => ("EbbIslandModel", "tape", "[I", true)
  | 17 => ("EbbIslandModel", "taped", "I", false)
  | 18 => ("EbbIslandModel", "at", "I", false)
  | 19 => ("EbbIslandModel", "size", "I", false)
  | 20 => ("EbbIslandModel", "token", "I", false)
  | 21 => ("EbbIslandModel", "number", "I", false)
  | 22 => ("EbbIslandModel", "begins", "I", false)
  | 23 => ("EbbIslandModel", "stops", "I", false)
  | 24 => ("EbbIslandModel", "bad", "I", false)
  | 25 => ("EbbIslandModel", "badPlace", "I", false)
  | 26 => ("EbbIslandModel", "faultPlace", "I", false)
  | 27 => ("EbbIslandModel", "asked", "[I", true)
  | 28 => ("EbbIslandModel", "stack", "[I", true)
  | 29 => ("EbbIslandModel", "waterNow", "[I", true)
  | 30 => ("EbbIslandModel", "quickNow", "[Z", true)
  | 31 => ("EbbIslandModel", "mayNow", "[Z", true)
  | 32 => ("EbbIslandModel", "booked", "I", false)
  | 33 => ("EbbIslandModel", "sank", "I", false)
  | 34 => ("EbbIslandModel", "soon", "[I", true)
  | 35 => ("EbbIslandModel", "pace", "I", false)
  | 36 => ("EbbIslandModel", "wayRow", "[I", true)
  | 37 => ("EbbIslandModel", "wayTry", "[I", true)
  | 38 => ("EbbIslandModel", "wayMany", "I", false)
  | 39 => ("EbbIslandModel", "bookWho", "[I", true)
  | 40 => ("EbbIslandModel", "bookDay", "[I", true)
  | 41 => ("EbbIslandModel", "bookTick", "[I", true)
  | 42 => ("EbbIslandModel", "bookEnd", "[I", true)
  | 43 => ("EbbIslandModel", "bookWay", "[I", true)
  | 44 => ("EbbIslandModel", "canOn", "[Z", true)
  | 45 => ("EbbIslandModel", "soonestOn", "[I", true)
  | 46 => ("EbbIslandModel", "dayTry", "[I", true)
  | 47 => ("EbbIslandModel", "dayKept", "[I", true)
  | 48 => ("EbbIslandModel", "manyOn", "[I", true)
  | 49 => ("EbbIslandModel", "isBuried", "Z", false)
  | 50 => ("EbbIslandModel", "sankCell", "[I", true)
  | 51 => ("EbbIslandModel", "sankDay", "[I", true)
  | 52 => ("EbbIslandModel", "isSank", "[Z", true)
  | 53 => ("EbbIslandModel", "byHorse", "[Z", true)
  | 54 => ("EbbIslandModel", "byStilts", "[Z", true)
  | 55 => ("EbbIslandModel", "hasImage", "Z", false)
  | 56 => ("EbbIslandModel", "bookedThen", "I", false)
  | 57 => ("EbbIslandModel", "sankThen", "I", false)
  | 58 => ("EbbIslandModel", "whoThen", "[I", true)
  | 59 => ("EbbIslandModel", "dayThen", "[I", true)
  | 60 => ("EbbIslandModel", "tickThen", "[I", true)
  | 61 => ("EbbIslandModel", "endThen", "[I", true)
  | 62 => ("EbbIslandModel", "waysThen", "[I", true)
  | 63 => ("EbbIslandModel", "sankCellThen", "[I", true)
  | 64 => ("EbbIslandModel", "sankDayThen", "[I", true)
  | 65 => ("EbbIslandModel", "statusThen", "[I", true)
  | _ => ("EbbIslandModel", "isSankThen", "[Z", true)
def tyX11 : Nat → FieldType := fun k => match k with
  | 0 => .array (.object "java/lang/String")
  | 1 => .array (.object "java/lang/String")
  | 2 => .int
  | 3 => .array .int
  | 4 => .array .int
  | 5 => .array .int
  | 6 => .array .int
  | 7 => .array .int
  | 8 => .array .int
  | 9 => .array .int
  | 10 => .array .int
  | 11 => .array .int
  | 12 => .array .int
  | 13 => .array .int
  | 14 => .array .int
  | 15 => .array .boolean
  | 16 => .array .int
  | 17 => .int
  | 18 => .int
  | 19 => .int
  | 20 => .int
  | 21 => .int
  | 22 => .int
  | 23 => .int
  | 24 => .int
  | 25 => .int
  | 26 => .int
  | 27 => .array .int
  | 28 => .array .int
  | 29 => .array .int
  | 30 => .array .boolean
  | 31 => .array .boolean
  | 32 => .int
  | 33 => .int
  | 34 => .array .int
  | 35 => .int
  | 36 => .array .int
  | 37 => .array .int
  | 38 => .int
  | 39 => .array .int
  | 40 => .array .int
  | 41 => .array .int
  | 42 => .array .int
  | 43 => .array .int
  | 44 => .array .boolean
  | 45 => .array .int
  | 46 => .array .int
  | 47 => .array .int
  | 48 => .array .int
  | 49 => .boolean
  | 50 => .array .int
  | 51 => .array .int
  | 52 => .array .boolean
  | 53 => .array .boolean
  | 54 => .array .boolean
  | 55 => .boolean
  | 56 => .int
  | 57 => .int
  | 58 => .array .int
  | 59 => .array .int
  | 60 => .array .int
  | 61 => .array .int
  | 62 => .array .int
  | 63 => .array .int
  | 64 => .array .int
  | 65 => .array .int
  | _ => .array .boolean
abbrev wsX110 : List Cond := u_ws RX11 TX11 67
theorem nmX11 : ∀ a, a < 67 → ∀ b, b < 67 → a ≠ b → (TX11 a).2.1 ≠ (TX11 b).2.1 := by decide +kernel
theorem tyX11_ok : ∀ k, k < 67 → parseFieldDescriptor (TX11 k).2.2.1 = some (tyX11 k) := by decide +kernel
abbrev cX11_init : ByteArray := prog_13_method_1_code
def yX11_init : MethodName := ⟨RX11, "<init>", "()V"⟩
abbrev cX11_thrown : ByteArray := prog_13_method_2_code
def yX11_thrown : MethodName := ⟨RX11, "thrown", "()I"⟩
abbrev cX11_fail : ByteArray := prog_13_method_3_code
def yX11_fail : MethodName := ⟨RX11, "fail", "(I)I"⟩
abbrev cX11_isIn : ByteArray := prog_13_method_4_code
def yX11_isIn : MethodName := ⟨RX11, "isIn", "(JJJ)Z"⟩
abbrev cX11_isCell : ByteArray := prog_13_method_5_code
def yX11_isCell : MethodName := ⟨RX11, "isCell", "(I)Z"⟩
abbrev cX11_isParty : ByteArray := prog_13_method_6_code
def yX11_isParty : MethodName := ⟨RX11, "isParty", "(I)Z"⟩
abbrev cX11_isDay : ByteArray := prog_13_method_7_code
def yX11_isDay : MethodName := ⟨RX11, "isDay", "(I)Z"⟩
abbrev cX11_isTick : ByteArray := prog_13_method_8_code
def yX11_isTick : MethodName := ⟨RX11, "isTick", "(I)Z"⟩
abbrev cX11_feed : ByteArray := prog_13_method_9_code
def yX11_feed : MethodName := ⟨RX11, "feed", "(IIIII)I"⟩
abbrev cX11_byteAt : ByteArray := prog_13_method_10_code
def yX11_byteAt : MethodName := ⟨RX11, "byteAt", "(I)I"⟩
abbrev cX11_isLetter : ByteArray := prog_13_method_11_code
def yX11_isLetter : MethodName := ⟨RX11, "isLetter", "(I)Z"⟩
abbrev cX11_isDigit : ByteArray := prog_13_method_12_code
def yX11_isDigit : MethodName := ⟨RX11, "isDigit", "(I)Z"⟩
abbrev cX11_isMark : ByteArray := prog_13_method_13_code
def yX11_isMark : MethodName := ⟨RX11, "isMark", "(I)Z"⟩
abbrev cX11_stepOn : ByteArray := prog_13_method_14_code
def yX11_stepOn : MethodName := ⟨RX11, "stepOn", "()V"⟩
abbrev cX11_wrong : ByteArray := prog_13_method_15_code
def yX11_wrong : MethodName := ⟨RX11, "wrong", "(I)V"⟩
abbrev cX11_is : ByteArray := prog_13_method_16_code
def yX11_is : MethodName := ⟨RX11, "is", "(Ljava/lang/String;)Z"⟩
abbrev cX11_which : ByteArray := prog_13_method_17_code
def yX11_which : MethodName := ⟨RX11, "which", "([Ljava/lang/String;)I"⟩
abbrev cX11_isMarked : ByteArray := prog_13_method_18_code
def yX11_isMarked : MethodName := ⟨RX11, "isMarked", "(I)Z"⟩
abbrev cX11_mark : ByteArray := prog_13_method_19_code
def yX11_mark : MethodName := ⟨RX11, "mark", "(I)V"⟩
abbrev cX11_numberNow : ByteArray := prog_13_method_20_code
def yX11_numberNow : MethodName := ⟨RX11, "numberNow", "(II)I"⟩
abbrev cX11_readNumber : ByteArray := prog_13_method_21_code
def yX11_readNumber : MethodName := ⟨RX11, "readNumber", "(II)I"⟩
abbrev cX11_readSigned : ByteArray := prog_13_method_22_code
def yX11_readSigned : MethodName := ⟨RX11, "readSigned", "(I)I"⟩
abbrev cX11_lay : ByteArray := prog_13_method_23_code
def yX11_lay : MethodName := ⟨RX11, "lay", "(I)V"⟩
abbrev cX11_readPart : ByteArray := prog_13_method_24_code
def yX11_readPart : MethodName := ⟨RX11, "readPart", "(I)V"⟩
abbrev cX11_readProduct : ByteArray := prog_13_method_25_code
def yX11_readProduct : MethodName := ⟨RX11, "readProduct", "(I)V"⟩
abbrev cX11_readSum : ByteArray := prog_13_method_26_code
def yX11_readSum : MethodName := ⟨RX11, "readSum", "(I)V"⟩
abbrev cX11_readNot : ByteArray := prog_13_method_27_code
def yX11_readNot : MethodName := ⟨RX11, "readNot", "(I)V"⟩
abbrev cX11_readAnd : ByteArray := prog_13_method_28_code
def yX11_readAnd : MethodName := ⟨RX11, "readAnd", "(I)V"⟩
abbrev cX11_readExpression : ByteArray := prog_13_method_29_code
def yX11_readExpression : MethodName := ⟨RX11, "readExpression", "(I)V"⟩
abbrev cX11_cellNow : ByteArray := prog_13_method_30_code
def yX11_cellNow : MethodName := ⟨RX11, "cellNow", "()I"⟩
abbrev cX11_readHeight : ByteArray := prog_13_method_31_code
def yX11_readHeight : MethodName := ⟨RX11, "readHeight", "()V"⟩
abbrev cX11_readThing : ByteArray := prog_13_method_32_code
def yX11_readThing : MethodName := ⟨RX11, "readThing", "(I)V"⟩
abbrev cX11_readParty : ByteArray := prog_13_method_33_code
def yX11_readParty : MethodName := ⟨RX11, "readParty", "(I)V"⟩
abbrev cX11_partyNow : ByteArray := prog_13_method_34_code
def yX11_partyNow : MethodName := ⟨RX11, "partyNow", "()I"⟩
abbrev cX11_readQuarrel : ByteArray := prog_13_method_35_code
def yX11_readQuarrel : MethodName := ⟨RX11, "readQuarrel", "()V"⟩
abbrev cX11_readFog : ByteArray := prog_13_method_36_code
def yX11_readFog : MethodName := ⟨RX11, "readFog", "()V"⟩
abbrev cX11_readLine : ByteArray := prog_13_method_37_code
def yX11_readLine : MethodName := ⟨RX11, "readLine", "(I)I"⟩
abbrev cX11_begin : ByteArray := prog_13_method_38_code
def yX11_begin : MethodName := ⟨RX11, "begin", "()V"⟩
abbrev cX11_island : ByteArray := prog_13_method_39_code
def yX11_island : MethodName := ⟨RX11, "island", "(I)I"⟩
abbrev cX11_takeHalf : ByteArray := prog_13_method_40_code
def yX11_takeHalf : MethodName := ⟨RX11, "takeHalf", "([I)V"⟩
abbrev cX11_takeOver : ByteArray := prog_13_method_41_code
def yX11_takeOver : MethodName := ⟨RX11, "takeOver", "()V"⟩
abbrev cX11_fault : ByteArray := prog_13_method_42_code
def yX11_fault : MethodName := ⟨RX11, "fault", "()I"⟩
abbrev cX11_reckon : ByteArray := prog_13_method_43_code
def yX11_reckon : MethodName := ⟨RX11, "reckon", "(III)I"⟩
abbrev cX11_waterOf : ByteArray := prog_13_method_44_code
def yX11_waterOf : MethodName := ⟨RX11, "waterOf", "(III)I"⟩
abbrev cX11_round : ByteArray := prog_13_method_45_code
def yX11_round : MethodName := ⟨RX11, "round", "(II)I"⟩
abbrev cX11_tellQuick : ByteArray := prog_13_method_46_code
def yX11_tellQuick : MethodName := ⟨RX11, "tellQuick", "(III)V"⟩
abbrev cX11_tellDay : ByteArray := prog_13_method_47_code
def yX11_tellDay : MethodName := ⟨RX11, "tellDay", "(II)V"⟩
abbrev cX11_isShore : ByteArray := prog_13_method_48_code
def yX11_isShore : MethodName := ⟨RX11, "isShore", "(I)Z"⟩
abbrev cX11_isIsland : ByteArray := prog_13_method_49_code
def yX11_isIsland : MethodName := ⟨RX11, "isIsland", "(I)Z"⟩
abbrev cX11_mayBe : ByteArray := prog_13_method_50_code
def yX11_mayBe : MethodName := ⟨RX11, "mayBe", "(IIII)Z"⟩
abbrev cX11_besides : ByteArray := prog_13_method_51_code
def yX11_besides : MethodName := ⟨RX11, "besides", "(II)I"⟩
abbrev cX11_canStep : ByteArray := prog_13_method_52_code
def yX11_canStep : MethodName := ⟨RX11, "canStep", "(II)Z"⟩
abbrev cX11_soonOf : ByteArray := prog_13_method_53_code
def yX11_soonOf : MethodName := ⟨RX11, "soonOf", "(II)I"⟩
abbrev cX11_tellSoon : ByteArray := prog_13_method_54_code
def yX11_tellSoon : MethodName := ⟨RX11, "tellSoon", "(IIII)V"⟩
abbrev cX11_tellParty : ByteArray := prog_13_method_55_code
def yX11_tellParty : MethodName := ⟨RX11, "tellParty", "(IIII)V"⟩
abbrev cX11_shoreOf : ByteArray := prog_13_method_56_code
def yX11_shoreOf : MethodName := ⟨RX11, "shoreOf", "(I)I"⟩
abbrev cX11_arrives : ByteArray := prog_13_method_57_code
def yX11_arrives : MethodName := ⟨RX11, "arrives", "(II)I"⟩
abbrev cX11_count : ByteArray := prog_13_method_58_code
def yX11_count : MethodName := ⟨RX11, "count", "(I)I"⟩
abbrev cX11_cell : ByteArray := prog_13_method_59_code
def yX11_cell : MethodName := ⟨RX11, "cell", "(II)I"⟩
abbrev cX11_refuses : ByteArray := prog_13_method_60_code
def yX11_refuses : MethodName := ⟨RX11, "refuses", "()Z"⟩
abbrev cX11_quick : ByteArray := prog_13_method_61_code
def yX11_quick : MethodName := ⟨RX11, "quick", "(II)Z"⟩
abbrev cX11_water : ByteArray := prog_13_method_62_code
def yX11_water : MethodName := ⟨RX11, "water", "(II)I"⟩
abbrev cX11_party : ByteArray := prog_13_method_63_code
def yX11_party : MethodName := ⟨RX11, "party", "(II)I"⟩
abbrev cX11_may : ByteArray := prog_13_method_64_code
def yX11_may : MethodName := ⟨RX11, "may", "(IIII)Z"⟩
abbrev cX11_tellWay : ByteArray := prog_13_method_65_code
def yX11_tellWay : MethodName := ⟨RX11, "tellWay", "(II)I"⟩
abbrev cX11_cross : ByteArray := prog_13_method_66_code
def yX11_cross : MethodName := ⟨RX11, "cross", "(III)I"⟩
abbrev cX11_way : ByteArray := prog_13_method_67_code
def yX11_way : MethodName := ⟨RX11, "way", "(I)I"⟩
abbrev cX11_starts : ByteArray := prog_13_method_68_code
def yX11_starts : MethodName := ⟨RX11, "starts", "(III)I"⟩
abbrev cX11_refuse : ByteArray := prog_13_method_69_code
def yX11_refuse : MethodName := ⟨RX11, "refuse", "(I)I"⟩
abbrev cX11_canBook : ByteArray := prog_13_method_70_code
def yX11_canBook : MethodName := ⟨RX11, "canBook", "(II)Z"⟩
abbrev cX11_book : ByteArray := prog_13_method_71_code
def yX11_book : MethodName := ⟨RX11, "book", "(III)I"⟩
abbrev cX11_undo : ByteArray := prog_13_method_72_code
def yX11_undo : MethodName := ⟨RX11, "undo", "()I"⟩
abbrev cX11_isBooked : ByteArray := prog_13_method_73_code
def yX11_isBooked : MethodName := ⟨RX11, "isBooked", "(I)Z"⟩
abbrev cX11_booked : ByteArray := prog_13_method_74_code
def yX11_booked : MethodName := ⟨RX11, "booked", "(II)I"⟩
abbrev cX11_placeOf : ByteArray := prog_13_method_75_code
def yX11_placeOf : MethodName := ⟨RX11, "placeOf", "(II)I"⟩
abbrev cX11_at : ByteArray := prog_13_method_76_code
def yX11_at : MethodName := ⟨RX11, "at", "(II)I"⟩
abbrev cX11_meets : ByteArray := prog_13_method_77_code
def yX11_meets : MethodName := ⟨RX11, "meets", "(III)I"⟩
abbrev cX11_met : ByteArray := prog_13_method_78_code
def yX11_met : MethodName := ⟨RX11, "met", "(II)I"⟩
abbrev cX11_crowdedBut : ByteArray := prog_13_method_79_code
def yX11_crowdedBut : MethodName := ⟨RX11, "crowdedBut", "(II)I"⟩
abbrev cX11_crowded : ByteArray := prog_13_method_80_code
def yX11_crowded : MethodName := ⟨RX11, "crowded", "(I)I"⟩
abbrev cX11_bitsOf : ByteArray := prog_13_method_81_code
def yX11_bitsOf : MethodName := ⟨RX11, "bitsOf", "(I)I"⟩
abbrev cX11_leave : ByteArray := prog_13_method_82_code
def yX11_leave : MethodName := ⟨RX11, "leave", "(I)I"⟩
abbrev cX11_tellDays : ByteArray := prog_13_method_83_code
def yX11_tellDays : MethodName := ⟨RX11, "tellDays", "()V"⟩
abbrev cX11_quarrelsOn : ByteArray := prog_13_method_84_code
def yX11_quarrelsOn : MethodName := ⟨RX11, "quarrelsOn", "(II)Z"⟩
abbrev cX11_buryOn : ByteArray := prog_13_method_85_code
def yX11_buryOn : MethodName := ⟨RX11, "buryOn", "(II)Z"⟩
abbrev cX11_burials : ByteArray := prog_13_method_86_code
def yX11_burials : MethodName := ⟨RX11, "burials", "()I"⟩
abbrev cX11_buried : ByteArray := prog_13_method_87_code
def yX11_buried : MethodName := ⟨RX11, "buried", "(I)I"⟩
abbrev cX11_hastiest : ByteArray := prog_13_method_88_code
def yX11_hastiest : MethodName := ⟨RX11, "hastiest", "(I)I"⟩
abbrev cX11_tellQueue : ByteArray := prog_13_method_89_code
def yX11_tellQueue : MethodName := ⟨RX11, "tellQueue", "()V"⟩
abbrev cX11_queue : ByteArray := prog_13_method_90_code
def yX11_queue : MethodName := ⟨RX11, "queue", "(I)I"⟩
abbrev cX11_heirKey : ByteArray := prog_13_method_91_code
def yX11_heirKey : MethodName := ⟨RX11, "heirKey", "(I)I"⟩
abbrev cX11_heir : ByteArray := prog_13_method_92_code
def yX11_heir : MethodName := ⟨RX11, "heir", "(I)I"⟩
abbrev cX11_sink : ByteArray := prog_13_method_93_code
def yX11_sink : MethodName := ⟨RX11, "sink", "(IIZ)I"⟩
abbrev cX11_forget : ByteArray := prog_13_method_94_code
def yX11_forget : MethodName := ⟨RX11, "forget", "()I"⟩
abbrev cX11_fitsMotion : ByteArray := prog_13_method_95_code
def yX11_fitsMotion : MethodName := ⟨RX11, "fitsMotion", "(I)Z"⟩
abbrev cX11_motions : ByteArray := prog_13_method_96_code
def yX11_motions : MethodName := ⟨RX11, "motions", "(I)I"⟩
abbrev cX11_sound : ByteArray := prog_13_method_97_code
def yX11_sound : MethodName := ⟨RX11, "sound", "(IZ)J"⟩
abbrev cX11_late : ByteArray := prog_13_method_98_code
def yX11_late : MethodName := ⟨RX11, "late", "(III)I"⟩
abbrev cX11_costs : ByteArray := prog_13_method_99_code
def yX11_costs : MethodName := ⟨RX11, "costs", "(IIII)I"⟩
abbrev cX11_common : ByteArray := prog_13_method_100_code
def yX11_common : MethodName := ⟨RX11, "common", "(II)I"⟩
abbrev cX11_vigil : ByteArray := prog_13_method_101_code
def yX11_vigil : MethodName := ⟨RX11, "vigil", "(IIII)I"⟩
abbrev cX11_canBy : ByteArray := prog_13_method_102_code
def yX11_canBy : MethodName := ⟨RX11, "canBy", "(III)Z"⟩
abbrev cX11_gain : ByteArray := prog_13_method_103_code
def yX11_gain : MethodName := ⟨RX11, "gain", "(ZII)I"⟩
abbrev cX11_rests : ByteArray := prog_13_method_104_code
def yX11_rests : MethodName := ⟨RX11, "rests", "(II)Z"⟩
abbrev cX11_rents : ByteArray := prog_13_method_105_code
def yX11_rents : MethodName := ⟨RX11, "rents", "(III)I"⟩
abbrev cX11_warning : ByteArray := prog_13_method_106_code
def yX11_warning : MethodName := ⟨RX11, "warning", "(III)I"⟩
abbrev cX11_fogs : ByteArray := prog_13_method_107_code
def yX11_fogs : MethodName := ⟨RX11, "fogs", "(IIII)I"⟩
abbrev cX11_be : ByteArray := prog_13_method_108_code
def yX11_be : MethodName := ⟨RX11, "be", "([I[I)V"⟩
abbrev cX11_beAs : ByteArray := prog_13_method_109_code
def yX11_beAs : MethodName := ⟨RX11, "beAs", "([Z[Z)V"⟩
abbrev cX11_image : ByteArray := prog_13_method_110_code
def yX11_image : MethodName := ⟨RX11, "image", "()V"⟩
abbrev cX11_restore : ByteArray := prog_13_method_111_code
def yX11_restore : MethodName := ⟨RX11, "restore", "()Z"⟩
def RJx145de : String := "java/io/Serializable"
def TJx145de : u_T := fun k => match k with
  | _ => ("", "", "", false)
def tyJx145de : Nat → FieldType := fun k => match k with
  | _ => .int
def RJx9f9b0 : String := "java/lang/CharSequence"
def TJx9f9b0 : u_T := fun k => match k with
  | _ => ("", "", "", false)
def tyJx9f9b0 : Nat → FieldType := fun k => match k with
  | _ => .int
def RJxb160c : String := "java/lang/Comparable"
def TJxb160c : u_T := fun k => match k with
  | _ => ("", "", "", false)
def tyJxb160c : Nat → FieldType := fun k => match k with
  | _ => .int
def RJ6 : String := "java/lang/Integer"
def TJ6 : u_T := fun k => match k with
  | _ => ("", "", "", false)
def tyJ6 : Nat → FieldType := fun k => match k with
  | _ => .int
abbrev wsJ60 : List Cond := u_ws RJ6 TJ6 0
theorem nmJ6 : ∀ a, a < 0 → ∀ b, b < 0 → a ≠ b → (TJ6 a).2.1 ≠ (TJ6 b).2.1 := by decide +kernel
theorem tyJ6_ok : ∀ k, k < 0 → parseFieldDescriptor (TJ6 k).2.2.1 = some (tyJ6 k) := by decide +kernel
abbrev cJ6_bitCount_0f7a4 : ByteArray := prog_19_method_49_code
def yJ6_bitCount_0f7a4 : MethodName := ⟨RJ6, "bitCount", "(I)I"⟩
def RJ13 : String := "java/lang/Long"
def TJ13 : u_T := fun k => match k with
  | _ => ("", "", "", false)
def tyJ13 : Nat → FieldType := fun k => match k with
  | _ => .int
abbrev wsJ130 : List Cond := u_ws RJ13 TJ13 0
theorem nmJ13 : ∀ a, a < 0 → ∀ b, b < 0 → a ≠ b → (TJ13 a).2.1 ≠ (TJ13 b).2.1 := by decide +kernel
theorem tyJ13_ok : ∀ k, k < 0 → parseFieldDescriptor (TJ13 k).2.2.1 = some (tyJ13 k) := by decide +kernel
abbrev cJ13_bitCount_95d88 : ByteArray := prog_20_method_50_code
def yJ13_bitCount_95d88 : MethodName := ⟨RJ13, "bitCount", "(J)I"⟩
def RJ9 : String := "java/lang/Math"
def TJ9 : u_T := fun k => match k with
  | _ => ("", "", "", false)
def tyJ9 : Nat → FieldType := fun k => match k with
  | _ => .int
abbrev wsJ90 : List Cond := u_ws RJ9 TJ9 0
theorem nmJ9 : ∀ a, a < 0 → ∀ b, b < 0 → a ≠ b → (TJ9 a).2.1 ≠ (TJ9 b).2.1 := by decide +kernel
theorem tyJ9_ok : ∀ k, k < 0 → parseFieldDescriptor (TJ9 k).2.2.1 = some (tyJ9 k) := by decide +kernel
abbrev cJ9_floorMod_7cf53 : ByteArray := prog_21_method_50_code
def yJ9_floorMod_7cf53 : MethodName := ⟨RJ9, "floorMod", "(II)I"⟩
abbrev cJ9_max_7cf53 : ByteArray := prog_21_method_65_code
def yJ9_max_7cf53 : MethodName := ⟨RJ9, "max", "(II)I"⟩
abbrev cJ9_min_7cf53 : ByteArray := prog_21_method_69_code
def yJ9_min_7cf53 : MethodName := ⟨RJ9, "min", "(II)I"⟩
def RJ0 : String := "java/lang/String"
def TJ0 : u_T := fun k => match k with
  | _ => ("", "", "", false)
def tyJ0 : Nat → FieldType := fun k => match k with
  | _ => .int
abbrev wsJ00 : List Cond := u_ws RJ0 TJ0 0
theorem nmJ0 : ∀ a, a < 0 → ∀ b, b < 0 → a ≠ b → (TJ0 a).2.1 ≠ (TJ0 b).2.1 := by decide +kernel
theorem tyJ0_ok : ∀ k, k < 0 → parseFieldDescriptor (TJ0 k).2.2.1 = some (tyJ0 k) := by decide +kernel
abbrev cJ0_length_8abf5 : ByteArray := prog_23_method_54_code
def yJ0_length_8abf5 : MethodName := ⟨RJ0, "length", "()I"⟩
abbrev cJ0_charAt_5068e : ByteArray := prog_23_method_56_code
def yJ0_charAt_5068e : MethodName := ⟨RJ0, "charAt", "(I)C"⟩
abbrev cJ0_coder_7d493 : ByteArray := prog_23_method_152_code
def yJ0_coder_7d493 : MethodName := ⟨RJ0, "coder", "()B"⟩
abbrev cJ0_isLatin1_aae02 : ByteArray := prog_23_method_154_code
def yJ0_isLatin1_aae02 : MethodName := ⟨RJ0, "isLatin1", "()Z"⟩
abbrev cJ0_checkIndex_df160 : ByteArray := prog_23_method_155_code
def yJ0_checkIndex_df160 : MethodName := ⟨RJ0, "checkIndex", "(II)V"⟩
def RJ1 : String := "java/lang/StringLatin1"
def TJ1 : u_T := fun k => match k with
  | _ => ("", "", "", false)
def tyJ1 : Nat → FieldType := fun k => match k with
  | _ => .int
abbrev wsJ10 : List Cond := u_ws RJ1 TJ1 0
theorem nmJ1 : ∀ a, a < 0 → ∀ b, b < 0 → a ≠ b → (TJ1 a).2.1 ≠ (TJ1 b).2.1 := by decide +kernel
theorem tyJ1_ok : ∀ k, k < 0 → parseFieldDescriptor (TJ1 k).2.2.1 = some (tyJ1 k) := by decide +kernel
abbrev cJ1_charAt_3b067 : ByteArray := prog_24_method_2_code
def yJ1_charAt_3b067 : MethodName := ⟨RJ1, "charAt", "([BI)C"⟩
def RJ2 : String := "java/lang/StringUTF16"
def TJ2 : u_T := fun k => match k with
  | _ => ("", "", "", false)
def tyJ2 : Nat → FieldType := fun k => match k with
  | _ => .int
abbrev wsJ20 : List Cond := u_ws RJ2 TJ2 0
theorem nmJ2 : ∀ a, a < 0 → ∀ b, b < 0 → a ≠ b → (TJ2 a).2.1 ≠ (TJ2 b).2.1 := by decide +kernel
theorem tyJ2_ok : ∀ k, k < 0 → parseFieldDescriptor (TJ2 k).2.2.1 = some (tyJ2 k) := by decide +kernel
abbrev cJ2_getChar_3b067 : ByteArray := prog_25_method_5_code
def yJ2_getChar_3b067 : MethodName := ⟨RJ2, "getChar", "([BI)C"⟩
abbrev cJ2_length_9d52b : ByteArray := prog_25_method_6_code
def yJ2_length_9d52b : MethodName := ⟨RJ2, "length", "([B)I"⟩
abbrev cJ2_charAt_3b067 : ByteArray := prog_25_method_83_code
def yJ2_charAt_3b067 : MethodName := ⟨RJ2, "charAt", "([BI)C"⟩
abbrev cJ2_checkIndex_2214a : ByteArray := prog_25_method_91_code
def yJ2_checkIndex_2214a : MethodName := ⟨RJ2, "checkIndex", "(I[B)V"⟩
def RJ10 : String := "java/lang/System"
def TJ10 : u_T := fun k => match k with
  | _ => ("", "", "", false)
def tyJ10 : Nat → FieldType := fun k => match k with
  | _ => .int
abbrev wsJ100 : List Cond := u_ws RJ10 TJ10 0
theorem nmJ10 : ∀ a, a < 0 → ∀ b, b < 0 → a ≠ b → (TJ10 a).2.1 ≠ (TJ10 b).2.1 := by decide +kernel
theorem tyJ10_ok : ∀ k, k < 0 → parseFieldDescriptor (TJ10 k).2.2.1 = some (tyJ10 k) := by decide +kernel
def RJxfd54e : String := "java/lang/constant/Constable"
def TJxfd54e : u_T := fun k => match k with
  | _ => ("", "", "", false)
def tyJxfd54e : Nat → FieldType := fun k => match k with
  | _ => .int
def RJx3cf43 : String := "java/lang/constant/ConstantDesc"
def TJx3cf43 : u_T := fun k => match k with
  | _ => ("", "", "", false)
def tyJx3cf43 : Nat → FieldType := fun k => match k with
  | _ => .int
def RJ7 : String := "java/util/Arrays"
def TJ7 : u_T := fun k => match k with
  | _ => ("", "", "", false)
def tyJ7 : Nat → FieldType := fun k => match k with
  | _ => .int
abbrev wsJ70 : List Cond := u_ws RJ7 TJ7 0
theorem nmJ7 : ∀ a, a < 0 → ∀ b, b < 0 → a ≠ b → (TJ7 a).2.1 ≠ (TJ7 b).2.1 := by decide +kernel
theorem tyJ7_ok : ∀ k, k < 0 → parseFieldDescriptor (TJ7 k).2.2.1 = some (tyJ7 k) := by decide +kernel
abbrev cJ7_fill_d0a16 : ByteArray := prog_30_method_101_code
def yJ7_fill_d0a16 : MethodName := ⟨RJ7, "fill", "([JJ)V"⟩
abbrev cJ7_fill_53178 : ByteArray := prog_30_method_103_code
def yJ7_fill_53178 : MethodName := ⟨RJ7, "fill", "([II)V"⟩
def RJ3 : String := "jdk/internal/util/Preconditions"
def TJ3 : u_T := fun k => match k with
  | _ => ("", "", "", false)
def tyJ3 : Nat → FieldType := fun k => match k with
  | _ => .int
abbrev wsJ30 : List Cond := u_ws RJ3 TJ3 0
theorem nmJ3 : ∀ a, a < 0 → ∀ b, b < 0 → a ≠ b → (TJ3 a).2.1 ≠ (TJ3 b).2.1 := by decide +kernel
theorem tyJ3_ok : ∀ k, k < 0 → parseFieldDescriptor (TJ3 k).2.2.1 = some (tyJ3 k) := by decide +kernel
abbrev cJ3_checkIndex_8e157 : ByteArray := prog_32_method_11_code
def yJ3_checkIndex_8e157 : MethodName := ⟨RJ3, "checkIndex", "(IILjava/util/function/BiFunction;)I"⟩
def RL : String := "EbbIslandLaw"
abbrev cL_island : ByteArray := method_3_code
def yL_island : MethodName := ⟨RL, "island", "(LEbbIsland;I[J)I"⟩
abbrev cL_count : ByteArray := method_4_code
def yL_count : MethodName := ⟨RL, "count", "(LEbbIsland;I[J)I"⟩
abbrev cL_cell : ByteArray := method_5_code
def yL_cell : MethodName := ⟨RL, "cell", "(LEbbIsland;II[J)I"⟩
abbrev cL_quick : ByteArray := method_6_code
def yL_quick : MethodName := ⟨RL, "quick", "(LEbbIsland;II[J)I"⟩
abbrev cL_water : ByteArray := method_7_code
def yL_water : MethodName := ⟨RL, "water", "(LEbbIsland;II[J)I"⟩
abbrev cL_party : ByteArray := method_8_code
def yL_party : MethodName := ⟨RL, "party", "(LEbbIsland;II[J)I"⟩
abbrev cL_may : ByteArray := method_9_code
def yL_may : MethodName := ⟨RL, "may", "(LEbbIsland;IIII[J)I"⟩
abbrev cL_cross : ByteArray := method_10_code
def yL_cross : MethodName := ⟨RL, "cross", "(LEbbIsland;III[J)I"⟩
abbrev cL_way : ByteArray := method_11_code
def yL_way : MethodName := ⟨RL, "way", "(LEbbIsland;I[J)I"⟩
abbrev cL_starts : ByteArray := method_12_code
def yL_starts : MethodName := ⟨RL, "starts", "(LEbbIsland;III[J)I"⟩
abbrev cL_book : ByteArray := method_13_code
def yL_book : MethodName := ⟨RL, "book", "(LEbbIsland;III[J)I"⟩
abbrev cL_booked : ByteArray := method_14_code
def yL_booked : MethodName := ⟨RL, "booked", "(LEbbIsland;II[J)I"⟩
abbrev cL_at : ByteArray := method_15_code
def yL_at : MethodName := ⟨RL, "at", "(LEbbIsland;II[J)I"⟩
abbrev cL_met : ByteArray := method_16_code
def yL_met : MethodName := ⟨RL, "met", "(LEbbIsland;II[J)I"⟩
abbrev cL_crowded : ByteArray := method_17_code
def yL_crowded : MethodName := ⟨RL, "crowded", "(LEbbIsland;I[J)I"⟩
abbrev cL_leave : ByteArray := method_18_code
def yL_leave : MethodName := ⟨RL, "leave", "(LEbbIsland;I[J)I"⟩
abbrev cL_buried : ByteArray := method_19_code
def yL_buried : MethodName := ⟨RL, "buried", "(LEbbIsland;I[J)I"⟩
abbrev cL_queue : ByteArray := method_20_code
def yL_queue : MethodName := ⟨RL, "queue", "(LEbbIsland;I[J)I"⟩
abbrev cL_heir : ByteArray := method_21_code
def yL_heir : MethodName := ⟨RL, "heir", "(LEbbIsland;I[J)I"⟩
abbrev cL_sink : ByteArray := method_22_code
def yL_sink : MethodName := ⟨RL, "sink", "(LEbbIsland;IIZ[J)I"⟩
abbrev cL_motions : ByteArray := method_23_code
def yL_motions : MethodName := ⟨RL, "motions", "(LEbbIsland;I[J)I"⟩
abbrev cL_sound : ByteArray := method_24_code
def yL_sound : MethodName := ⟨RL, "sound", "(LEbbIsland;IZ[J)I"⟩
abbrev cL_late : ByteArray := method_25_code
def yL_late : MethodName := ⟨RL, "late", "(LEbbIsland;III[J)I"⟩
abbrev cL_costs : ByteArray := method_26_code
def yL_costs : MethodName := ⟨RL, "costs", "(LEbbIsland;IIII[J)I"⟩
abbrev cL_vigil : ByteArray := method_27_code
def yL_vigil : MethodName := ⟨RL, "vigil", "(LEbbIsland;IIII[J)I"⟩
abbrev cL_rents : ByteArray := method_28_code
def yL_rents : MethodName := ⟨RL, "rents", "(LEbbIsland;III[J)I"⟩
abbrev cL_warning : ByteArray := method_29_code
def yL_warning : MethodName := ⟨RL, "warning", "(LEbbIsland;III[J)I"⟩
abbrev cL_fogs : ByteArray := method_30_code
def yL_fogs : MethodName := ⟨RL, "fogs", "(LEbbIsland;IIII[J)I"⟩
abbrev cL_law : ByteArray := code
def yL_law : MethodName := ⟨RL, "law", "([I)Z"⟩
abbrev vwCl : List vw_C := [(RX0, TX0, 9), (RX1, TX1, 9), (RX2, TX2, 11), (RX3, TX3, 6), (RX4, TX4, 5), (RX5, TX5, 5), (RX6, TX6, 3), (RX7, TX7, 10), (RX8, TX8, 15), (RX9, TX9, 8), (RX10, TX10, 16), (RX11, TX11, 67)]
/-- the texts: whose pool, which entry, the text, its bytes; its number is its place -/
def jsr : List (String × Nat × String × List Int32) := [(RX10, 83, "the tape has not so many bytes", [116, 104, 101, 32, 116, 97, 112, 101, 32, 104, 97, 115, 32, 110, 111, 116, 32, 115, 111, 32, 109, 97, 110, 121, 32, 98, 121, 116, 101, 115]),
  (RX5, 49, "sands", [115, 97, 110, 100, 115]),
  (RX5, 144, "height", [104, 101, 105, 103, 104, 116]),
  (RX5, 146, "rock", [114, 111, 99, 107]),
  (RX5, 148, "ladder", [108, 97, 100, 100, 101, 114]),
  (RX5, 150, "quick", [113, 117, 105, 99, 107]),
  (RX5, 152, "walk", [119, 97, 108, 107]),
  (RX5, 154, "horse", [104, 111, 114, 115, 101]),
  (RX5, 156, "stilts", [115, 116, 105, 108, 116, 115]),
  (RX5, 158, "run", [114, 117, 110]),
  (RX5, 160, "quarrel", [113, 117, 97, 114, 114, 101, 108]),
  (RX5, 165, "moves", [109, 111, 118, 101, 115]),
  (RX5, 167, "wind", [119, 105, 110, 100]),
  (RX5, 169, "ebb", [101, 98, 98]),
  (RX5, 171, "wait", [119, 97, 105, 116]),
  (RX5, 173, "fog", [102, 111, 103]),
  (RX5, 175, "water", [119, 97, 116, 101, 114]),
  (RX7, 81, "not", [110, 111, 116]),
  (RX7, 105, "hour", [104, 111, 117, 114]),
  (RX7, 107, "tick", [116, 105, 99, 107]),
  (RX7, 109, "day", [100, 97, 121]),
  (RX7, 111, "wind", [119, 105, 110, 100]),
  (RX7, 124, "or", [111, 114]),
  (RX7, 126, "and", [97, 110, 100]),
  (RX10, 155, "nothing such is counted", [110, 111, 116, 104, 105, 110, 103, 32, 115, 117, 99, 104, 32, 105, 115, 32, 99, 111, 117, 110, 116, 101, 100]),
  (RX10, 377, "no such cell", [110, 111, 32, 115, 117, 99, 104, 32, 99, 101, 108, 108]),
  (RX10, 168, "nothing such is told of a cell", [110, 111, 116, 104, 105, 110, 103, 32, 115, 117, 99, 104, 32, 105, 115, 32, 116, 111, 108, 100, 32, 111, 102, 32, 97, 32, 99, 101, 108, 108]),
  (RX10, 379, "no such day", [110, 111, 32, 115, 117, 99, 104, 32, 100, 97, 121]),
  (RX10, 381, "no such tick", [110, 111, 32, 115, 117, 99, 104, 32, 116, 105, 99, 107]),
  (RX10, 383, "no such party", [110, 111, 32, 115, 117, 99, 104, 32, 112, 97, 114, 116, 121]),
  (RX10, 215, "nothing such is told of a party", [110, 111, 116, 104, 105, 110, 103, 32, 115, 117, 99, 104, 32, 105, 115, 32, 116, 111, 108, 100, 32, 111, 102, 32, 97, 32, 112, 97, 114, 116, 121]),
  (RX10, 240, "no way is kept", [110, 111, 32, 119, 97, 121, 32, 105, 115, 32, 107, 101, 112, 116]),
  (RX10, 242, "the way has no such tick", [116, 104, 101, 32, 119, 97, 121, 32, 104, 97, 115, 32, 110, 111, 32, 115, 117, 99, 104, 32, 116, 105, 99, 107]),
  (RX10, 244, "nothing such is told of starts", [110, 111, 116, 104, 105, 110, 103, 32, 115, 117, 99, 104, 32, 105, 115, 32, 116, 111, 108, 100, 32, 111, 102, 32, 115, 116, 97, 114, 116, 115]),
  (RX10, 385, "no such crossing is booked", [110, 111, 32, 115, 117, 99, 104, 32, 99, 114, 111, 115, 115, 105, 110, 103, 32, 105, 115, 32, 98, 111, 111, 107, 101, 100]),
  (RX10, 274, "nothing such is told of what is booked", [110, 111, 116, 104, 105, 110, 103, 32, 115, 117, 99, 104, 32, 105, 115, 32, 116, 111, 108, 100, 32, 111, 102, 32, 119, 104, 97, 116, 32, 105, 115, 32, 98, 111, 111, 107, 101, 100]),
  (RX10, 279, "both are one", [98, 111, 116, 104, 32, 97, 114, 101, 32, 111, 110, 101]),
  (RX10, 309, "no burials are kept", [110, 111, 32, 98, 117, 114, 105, 97, 108, 115, 32, 97, 114, 101, 32, 107, 101, 112, 116]),
  (RX10, 326, "nothing such is told of motions", [110, 111, 116, 104, 105, 110, 103, 32, 115, 117, 99, 104, 32, 105, 115, 32, 116, 111, 108, 100, 32, 111, 102, 32, 109, 111, 116, 105, 111, 110, 115]),
  (RX10, 340, "no such later tick", [110, 111, 32, 115, 117, 99, 104, 32, 108, 97, 116, 101, 114, 32, 116, 105, 99, 107]),
  (RX10, 342, "nothing such is told of vigils", [110, 111, 116, 104, 105, 110, 103, 32, 115, 117, 99, 104, 32, 105, 115, 32, 116, 111, 108, 100, 32, 111, 102, 32, 118, 105, 103, 105, 108, 115]),
  (RX10, 354, "nothing such is told of rents", [110, 111, 116, 104, 105, 110, 103, 32, 115, 117, 99, 104, 32, 105, 115, 32, 116, 111, 108, 100, 32, 111, 102, 32, 114, 101, 110, 116, 115]),
  (RX10, 367, "no such number of days", [110, 111, 32, 115, 117, 99, 104, 32, 110, 117, 109, 98, 101, 114, 32, 111, 102, 32, 100, 97, 121, 115]),
  (RX11, 9, "walk", [119, 97, 108, 107]),
  (RX11, 11, "horse", [104, 111, 114, 115, 101]),
  (RX11, 13, "stilts", [115, 116, 105, 108, 116, 115]),
  (RX11, 15, "run", [114, 117, 110]),
  (RX11, 23, "hour", [104, 111, 117, 114]),
  (RX11, 25, "tick", [116, 105, 99, 107]),
  (RX11, 27, "day", [100, 97, 121]),
  (RX11, 29, "wind", [119, 105, 110, 100]),
  (RX11, 354, "sands", [115, 97, 110, 100, 115]),
  (RX11, 314, "moves", [109, 111, 118, 101, 115]),
  (RX11, 316, "ebb", [101, 98, 98]),
  (RX11, 318, "wait", [119, 97, 105, 116]),
  (RX11, 320, "fog", [102, 111, 103]),
  (RX11, 322, "water", [119, 97, 116, 101, 114]),
  (RX11, 293, "not", [110, 111, 116]),
  (RX11, 301, "and", [97, 110, 100]),
  (RX11, 306, "or", [111, 114]),
  (RX11, 333, "height", [104, 101, 105, 103, 104, 116]),
  (RX11, 337, "quarrel", [113, 117, 97, 114, 114, 101, 108]),
  (RX11, 342, "rock", [114, 111, 99, 107]),
  (RX11, 344, "ladder", [108, 97, 100, 100, 101, 114]),
  (RX11, 346, "quick", [113, 117, 105, 99, 107])]
