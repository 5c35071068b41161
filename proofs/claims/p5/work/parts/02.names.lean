def RX0 : String := "BarberMinutes$Agenda"
def TX0 : u_T := fun k => match k with
  | 0 => ("BarberMinutes$Agenda", "steps", "[LBarberMinutes$Minutes;", true)
  | 1 => ("BarberMinutes$Agenda", "weeks", "I", false)
  | 2 => ("BarberMinutes$Agenda", "bestRow", "I", false)
  | 3 => ("BarberMinutes$Agenda", "bestWorth", "I", false)
  | _ => ("BarberMinutes$Agenda", "bestCarried", "I", false)
def tyX0 : Nat → FieldType := fun k => match k with
  | 0 => .array (.object "BarberMinutes$Minutes")
  | 1 => .int
  | 2 => .int
  | 3 => .int
  | _ => .int
abbrev wsX00 : List Cond := u_ws RX0 TX0 5
theorem nmX0 : ∀ a, a < 5 → ∀ b, b < 5 → a ≠ b → (TX0 a).2.1 ≠ (TX0 b).2.1 := by decide +kernel
theorem tyX0_ok : ∀ k, k < 5 → parseFieldDescriptor (TX0 k).2.2.1 = some (tyX0 k) := by decide +kernel
abbrev cX0_init : ByteArray := prog_2_method_1_code
def yX0_init : MethodName := ⟨RX0, "<init>", "()V"⟩
abbrev cX0_isRow : ByteArray := prog_2_method_2_code
def yX0_isRow : MethodName := ⟨RX0, "isRow", "(LBarberMinutes$Town;II)Z"⟩
abbrev cX0_worthOfRow : ByteArray := prog_2_method_3_code
def yX0_worthOfRow : MethodName := ⟨RX0, "worthOfRow", "(LBarberMinutes$Town;LBarberMinutes$Minutes;II)I"⟩
abbrev cX0_search : ByteArray := prog_2_method_4_code
def yX0_search : MethodName := ⟨RX0, "search", "(LBarberMinutes$Town;LBarberMinutes$Minutes;I)V"⟩
abbrev cX0_explore : ByteArray := prog_2_method_5_code
def yX0_explore : MethodName := ⟨RX0, "explore", "(LBarberMinutes$Town;III)V"⟩
abbrev cX0_takeStep : ByteArray := prog_2_method_6_code
def yX0_takeStep : MethodName := ⟨RX0, "takeStep", "(LBarberMinutes$Town;II)I"⟩
abbrev cX0_fewestWeeks : ByteArray := prog_2_method_7_code
def yX0_fewestWeeks : MethodName := ⟨RX0, "fewestWeeks", "(LBarberMinutes$Town;LBarberMinutes$Minutes;I)I"⟩
abbrev cX0_canCarry : ByteArray := prog_2_method_8_code
def yX0_canCarry : MethodName := ⟨RX0, "canCarry", "(LBarberMinutes$Town;II)Z"⟩
def RX1 : String := "BarberMinutes$Chance"
def TX1 : u_T := fun k => match k with
  | 0 => ("BarberMinutes$Chance", "upper", "J", false)
  | 1 => ("BarberMinutes$Chance", "lower", "J", false)
  | _ => ("BarberMinutes$Chance", "seed", "I", false)
def tyX1 : Nat → FieldType := fun k => match k with
  | 0 => .long
  | 1 => .long
  | _ => .int
abbrev wsX10 : List Cond := u_ws RX1 TX1 3
theorem nmX1 : ∀ a, a < 3 → ∀ b, b < 3 → a ≠ b → (TX1 a).2.1 ≠ (TX1 b).2.1 := by decide +kernel
theorem tyX1_ok : ∀ k, k < 3 → parseFieldDescriptor (TX1 k).2.2.1 = some (tyX1 k) := by decide +kernel
abbrev cX1_init : ByteArray := prog_3_method_1_code
def yX1_init : MethodName := ⟨RX1, "<init>", "()V"⟩
abbrev cX1_weighEnough : ByteArray := prog_3_method_2_code
def yX1_weighEnough : MethodName := ⟨RX1, "weighEnough", "(LBarberMinutes$Town;LBarberMinutes$Minutes;I)V"⟩
abbrev cX1_weighYes : ByteArray := prog_3_method_3_code
def yX1_weighYes : MethodName := ⟨RX1, "weighYes", "(LBarberMinutes$Town;LBarberMinutes$Minutes;I)V"⟩
abbrev cX1_power : ByteArray := prog_3_method_4_code
def yX1_power : MethodName := ⟨RX1, "power", "(II)J"⟩
abbrev cX1_reduce : ByteArray := prog_3_method_5_code
def yX1_reduce : MethodName := ⟨RX1, "reduce", "(JJ)V"⟩
abbrev cX1_passShavingWeek : ByteArray := prog_3_method_6_code
def yX1_passShavingWeek : MethodName := ⟨RX1, "passShavingWeek", "(LBarberMinutes$Town;LBarberMinutes$Minutes;)V"⟩
def RX2 : String := "BarberMinutes$Minutes"
def TX2 : u_T := fun k => match k with
  | 0 => ("BarberMinutes$Minutes", "hair", "[I", true)
  | 1 => ("BarberMinutes$Minutes", "fallen", "[I", true)
  | 2 => ("BarberMinutes$Minutes", "carried", "I", false)
  | _ => ("BarberMinutes$Minutes", "weeks", "I", false)
def tyX2 : Nat → FieldType := fun k => match k with
  | 0 => .array .int
  | 1 => .array .int
  | 2 => .int
  | _ => .int
abbrev wsX20 : List Cond := u_ws RX2 TX2 4
theorem nmX2 : ∀ a, a < 4 → ∀ b, b < 4 → a ≠ b → (TX2 a).2.1 ≠ (TX2 b).2.1 := by decide +kernel
theorem tyX2_ok : ∀ k, k < 4 → parseFieldDescriptor (TX2 k).2.2.1 = some (tyX2 k) := by decide +kernel
abbrev cX2_init : ByteArray := prog_4_method_1_code
def yX2_init : MethodName := ⟨RX2, "<init>", "()V"⟩
abbrev cX2_begin : ByteArray := prog_4_method_2_code
def yX2_begin : MethodName := ⟨RX2, "begin", "(LBarberMinutes$Town;)V"⟩
abbrev cX2_copy : ByteArray := prog_4_method_3_code
def yX2_copy : MethodName := ⟨RX2, "copy", "(LBarberMinutes$Minutes;)V"⟩
abbrev cX2_passWeek : ByteArray := prog_4_method_4_code
def yX2_passWeek : MethodName := ⟨RX2, "passWeek", "(LBarberMinutes$Town;)V"⟩
abbrev cX2_isBald : ByteArray := prog_4_method_5_code
def yX2_isBald : MethodName := ⟨RX2, "isBald", "(LBarberMinutes$Town;I)Z"⟩
abbrev cX2_baldMen : ByteArray := prog_4_method_6_code
def yX2_baldMen : MethodName := ⟨RX2, "baldMen", "(LBarberMinutes$Town;)I"⟩
abbrev cX2_hairyMen : ByteArray := prog_4_method_7_code
def yX2_hairyMen : MethodName := ⟨RX2, "hairyMen", "(LBarberMinutes$Town;)I"⟩
abbrev cX2_saysYes : ByteArray := prog_4_method_8_code
def yX2_saysYes : MethodName := ⟨RX2, "saysYes", "(LBarberMinutes$Town;II)Z"⟩
abbrev cX2_motionsLiked : ByteArray := prog_4_method_9_code
def yX2_motionsLiked : MethodName := ⟨RX2, "motionsLiked", "(LBarberMinutes$Town;I)I"⟩
abbrev cX2_yesMen : ByteArray := prog_4_method_10_code
def yX2_yesMen : MethodName := ⟨RX2, "yesMen", "(LBarberMinutes$Town;I)I"⟩
abbrev cX2_yesVotes : ByteArray := prog_4_method_11_code
def yX2_yesVotes : MethodName := ⟨RX2, "yesVotes", "(LBarberMinutes$Town;I)I"⟩
abbrev cX2_hasEnough : ByteArray := prog_4_method_12_code
def yX2_hasEnough : MethodName := ⟨RX2, "hasEnough", "(LBarberMinutes$Town;I)Z"⟩
abbrev cX2_wasCarried : ByteArray := prog_4_method_13_code
def yX2_wasCarried : MethodName := ⟨RX2, "wasCarried", "(I)Z"⟩
abbrev cX2_mayBePut : ByteArray := prog_4_method_14_code
def yX2_mayBePut : MethodName := ⟨RX2, "mayBePut", "(LBarberMinutes$Town;I)Z"⟩
abbrev cX2_cutFor : ByteArray := prog_4_method_15_code
def yX2_cutFor : MethodName := ⟨RX2, "cutFor", "(LBarberMinutes$Town;I)Z"⟩
abbrev cX2_cutOff : ByteArray := prog_4_method_16_code
def yX2_cutOff : MethodName := ⟨RX2, "cutOff", "(LBarberMinutes$Town;II)V"⟩
abbrev cX2_turns : ByteArray := prog_4_method_17_code
def yX2_turns : MethodName := ⟨RX2, "turns", "(LBarberMinutes$Town;II)I"⟩
def RX3 : String := "BarberMinutes$Past"
def TX3 : u_T := fun k => match k with
  | 0 => ("BarberMinutes$Past", "before", "[LBarberMinutes$Minutes;", true)
  | 1 => ("BarberMinutes$Past", "drawn", "[LBarberMinutes$Minutes;", true)
  | 2 => ("BarberMinutes$Past", "next", "I", false)
  | 3 => ("BarberMinutes$Past", "acts", "I", false)
  | _ => ("BarberMinutes$Past", "images", "I", false)
def tyX3 : Nat → FieldType := fun k => match k with
  | 0 => .array (.object "BarberMinutes$Minutes")
  | 1 => .array (.object "BarberMinutes$Minutes")
  | 2 => .int
  | 3 => .int
  | _ => .int
abbrev wsX30 : List Cond := u_ws RX3 TX3 5
theorem nmX3 : ∀ a, a < 5 → ∀ b, b < 5 → a ≠ b → (TX3 a).2.1 ≠ (TX3 b).2.1 := by decide +kernel
theorem tyX3_ok : ∀ k, k < 5 → parseFieldDescriptor (TX3 k).2.2.1 = some (tyX3 k) := by decide +kernel
abbrev cX3_init : ByteArray := prog_5_method_1_code
def yX3_init : MethodName := ⟨RX3, "<init>", "()V"⟩
abbrev cX3_forget : ByteArray := prog_5_method_2_code
def yX3_forget : MethodName := ⟨RX3, "forget", "()V"⟩
abbrev cX3_keep : ByteArray := prog_5_method_3_code
def yX3_keep : MethodName := ⟨RX3, "keep", "(LBarberMinutes$Minutes;)V"⟩
abbrev cX3_takeBack : ByteArray := prog_5_method_4_code
def yX3_takeBack : MethodName := ⟨RX3, "takeBack", "(LBarberMinutes$Minutes;)Z"⟩
abbrev cX3_draw : ByteArray := prog_5_method_5_code
def yX3_draw : MethodName := ⟨RX3, "draw", "(LBarberMinutes$Minutes;)I"⟩
abbrev cX3_restore : ByteArray := prog_5_method_6_code
def yX3_restore : MethodName := ⟨RX3, "restore", "(ILBarberMinutes$Minutes;)Z"⟩
def RX4 : String := "BarberMinutes$Reader"
def TX4 : u_T := fun k => match k with
  | 0 => ("BarberMinutes$Reader", "text", "[B", false)
  | 1 => ("BarberMinutes$Reader", "end", "I", false)
  | 2 => ("BarberMinutes$Reader", "next", "I", false)
  | 3 => ("BarberMinutes$Reader", "kind", "I", false)
  | 4 => ("BarberMinutes$Reader", "start", "I", false)
  | 5 => ("BarberMinutes$Reader", "value", "I", false)
  | 6 => ("BarberMinutes$Reader", "word", "J", false)
  | 7 => ("BarberMinutes$Reader", "town", "LBarberMinutes$Town;", false)
  | 8 => ("BarberMinutes$Reader", "townTold", "Z", false)
  | 9 => ("BarberMinutes$Reader", "fault", "I", false)
  | 10 => ("BarberMinutes$Reader", "names", "I", false)
  | 11 => ("BarberMinutes$Reader", "nameWord", "[J", true)
  | 12 => ("BarberMinutes$Reader", "nameSort", "[I", true)
  | _ => ("BarberMinutes$Reader", "nameNumber", "[I", true)
def tyX4 : Nat → FieldType := fun k => match k with
  | 0 => .array .byte
  | 1 => .int
  | 2 => .int
  | 3 => .int
  | 4 => .int
  | 5 => .int
  | 6 => .long
  | 7 => .object "BarberMinutes$Town"
  | 8 => .boolean
  | 9 => .int
  | 10 => .int
  | 11 => .array .long
  | 12 => .array .int
  | _ => .array .int
abbrev wsX40 : List Cond := u_ws RX4 TX4 14
theorem nmX4 : ∀ a, a < 14 → ∀ b, b < 14 → a ≠ b → (TX4 a).2.1 ≠ (TX4 b).2.1 := by decide +kernel
theorem tyX4_ok : ∀ k, k < 14 → parseFieldDescriptor (TX4 k).2.2.1 = some (tyX4 k) := by decide +kernel
abbrev cX4_init : ByteArray := prog_6_method_1_code
def yX4_init : MethodName := ⟨RX4, "<init>", "()V"⟩
abbrev cX4_read : ByteArray := prog_6_method_2_code
def yX4_read : MethodName := ⟨RX4, "read", "([BILBarberMinutes$Town;)I"⟩
abbrev cX4_place : ByteArray := prog_6_method_3_code
def yX4_place : MethodName := ⟨RX4, "place", "()I"⟩
abbrev cX4_fail : ByteArray := prog_6_method_4_code
def yX4_fail : MethodName := ⟨RX4, "fail", "(I)V"⟩
abbrev cX4_readLine : ByteArray := prog_6_method_5_code
def yX4_readLine : MethodName := ⟨RX4, "readLine", "()V"⟩
abbrev cX4_room : ByteArray := prog_6_method_6_code
def yX4_room : MethodName := ⟨RX4, "room", "(I)I"⟩
abbrev cX4_told : ByteArray := prog_6_method_7_code
def yX4_told : MethodName := ⟨RX4, "told", "(I)I"⟩
abbrev cX4_readTown : ByteArray := prog_6_method_8_code
def yX4_readTown : MethodName := ⟨RX4, "readTown", "()V"⟩
abbrev cX4_readMan : ByteArray := prog_6_method_9_code
def yX4_readMan : MethodName := ⟨RX4, "readMan", "()V"⟩
abbrev cX4_readMotion : ByteArray := prog_6_method_10_code
def yX4_readMotion : MethodName := ⟨RX4, "readMotion", "()V"⟩
abbrev cX4_readAgainst : ByteArray := prog_6_method_11_code
def yX4_readAgainst : MethodName := ⟨RX4, "readAgainst", "()V"⟩
abbrev cX4_readAmends : ByteArray := prog_6_method_12_code
def yX4_readAmends : MethodName := ⟨RX4, "readAmends", "()V"⟩
abbrev cX4_readQuarrel : ByteArray := prog_6_method_13_code
def yX4_readQuarrel : MethodName := ⟨RX4, "readQuarrel", "()V"⟩
abbrev cX4_readChair : ByteArray := prog_6_method_14_code
def yX4_readChair : MethodName := ⟨RX4, "readChair", "()V"⟩
abbrev cX4_readHeap : ByteArray := prog_6_method_15_code
def yX4_readHeap : MethodName := ⟨RX4, "readHeap", "()V"⟩
abbrev cX4_takeWord : ByteArray := prog_6_method_16_code
def yX4_takeWord : MethodName := ⟨RX4, "takeWord", "(Ljava/lang/String;)V"⟩
abbrev cX4_takeWhole : ByteArray := prog_6_method_17_code
def yX4_takeWhole : MethodName := ⟨RX4, "takeWhole", "(II)I"⟩
abbrev cX4_takeNewName : ByteArray := prog_6_method_18_code
def yX4_takeNewName : MethodName := ⟨RX4, "takeNewName", "(II)V"⟩
abbrev cX4_toldHere : ByteArray := prog_6_method_19_code
def yX4_toldHere : MethodName := ⟨RX4, "toldHere", "(I)I"⟩
abbrev cX4_nameHere : ByteArray := prog_6_method_20_code
def yX4_nameHere : MethodName := ⟨RX4, "nameHere", "()I"⟩
abbrev cX4_colourHere : ByteArray := prog_6_method_21_code
def yX4_colourHere : MethodName := ⟨RX4, "colourHere", "()I"⟩
abbrev cX4_lineHere : ByteArray := prog_6_method_22_code
def yX4_lineHere : MethodName := ⟨RX4, "lineHere", "()I"⟩
abbrev cX4_firstWord : ByteArray := prog_6_method_23_code
def yX4_firstWord : MethodName := ⟨RX4, "firstWord", "(I)Ljava/lang/String;"⟩
abbrev cX4_isWord : ByteArray := prog_6_method_24_code
def yX4_isWord : MethodName := ⟨RX4, "isWord", "(Ljava/lang/String;)Z"⟩
abbrev cX4_packedWith : ByteArray := prog_6_method_25_code
def yX4_packedWith : MethodName := ⟨RX4, "packedWith", "(JI)J"⟩
abbrev cX4_stepOn : ByteArray := prog_6_method_26_code
def yX4_stepOn : MethodName := ⟨RX4, "stepOn", "()V"⟩
abbrev cX4_readLetters : ByteArray := prog_6_method_27_code
def yX4_readLetters : MethodName := ⟨RX4, "readLetters", "()V"⟩
abbrev cX4_readDigits : ByteArray := prog_6_method_28_code
def yX4_readDigits : MethodName := ⟨RX4, "readDigits", "()V"⟩
abbrev cX4_isLetter : ByteArray := prog_6_method_29_code
def yX4_isLetter : MethodName := ⟨RX4, "isLetter", "(I)Z"⟩
abbrev cX4_isDigit : ByteArray := prog_6_method_30_code
def yX4_isDigit : MethodName := ⟨RX4, "isDigit", "(I)Z"⟩
def RX5 : String := "BarberMinutes$Sweepings"
def TX5 : u_T := fun k => match k with
  | 0 => ("BarberMinutes$Sweepings", "sets", "[I", true)
  | 1 => ("BarberMinutes$Sweepings", "count", "I", false)
  | _ => ("BarberMinutes$Sweepings", "trial", "LBarberMinutes$Minutes;", true)
def tyX5 : Nat → FieldType := fun k => match k with
  | 0 => .array .int
  | 1 => .int
  | _ => .object "BarberMinutes$Minutes"
abbrev wsX50 : List Cond := u_ws RX5 TX5 3
theorem nmX5 : ∀ a, a < 3 → ∀ b, b < 3 → a ≠ b → (TX5 a).2.1 ≠ (TX5 b).2.1 := by decide +kernel
theorem tyX5_ok : ∀ k, k < 3 → parseFieldDescriptor (TX5 k).2.2.1 = some (tyX5 k) := by decide +kernel
abbrev cX5_init : ByteArray := prog_7_method_1_code
def yX5_init : MethodName := ⟨RX5, "<init>", "()V"⟩
abbrev cX5_find : ByteArray := prog_7_method_2_code
def yX5_find : MethodName := ⟨RX5, "find", "(LBarberMinutes$Town;)V"⟩
abbrev cX5_explainsHeaps : ByteArray := prog_7_method_3_code
def yX5_explainsHeaps : MethodName := ⟨RX5, "explainsHeaps", "(LBarberMinutes$Town;I)Z"⟩
abbrev cX5_inSome : ByteArray := prog_7_method_4_code
def yX5_inSome : MethodName := ⟨RX5, "inSome", "()I"⟩
abbrev cX5_inAll : ByteArray := prog_7_method_5_code
def yX5_inAll : MethodName := ⟨RX5, "inAll", "()I"⟩
abbrev cX5_leftAtMost : ByteArray := prog_7_method_6_code
def yX5_leftAtMost : MethodName := ⟨RX5, "leftAtMost", "(I)I"⟩
abbrev cX5_question : ByteArray := prog_7_method_7_code
def yX5_question : MethodName := ⟨RX5, "question", "(LBarberMinutes$Town;)I"⟩
def RX6 : String := "BarberMinutes$Tour"
def TX6 : u_T := fun k => match k with
  | 0 => ("BarberMinutes$Tour", "order", "[I", true)
  | 1 => ("BarberMinutes$Tour", "best", "[I", true)
  | _ => ("BarberMinutes$Tour", "far", "I", false)
def tyX6 : Nat → FieldType := fun k => match k with
  | 0 => .array .int
  | 1 => .array .int
  | _ => .int
abbrev wsX60 : List Cond := u_ws RX6 TX6 3
theorem nmX6 : ∀ a, a < 3 → ∀ b, b < 3 → a ≠ b → (TX6 a).2.1 ≠ (TX6 b).2.1 := by decide +kernel
theorem tyX6_ok : ∀ k, k < 3 → parseFieldDescriptor (TX6 k).2.2.1 = some (tyX6 k) := by decide +kernel
abbrev cX6_init : ByteArray := prog_8_method_1_code
def yX6_init : MethodName := ⟨RX6, "<init>", "()V"⟩
abbrev cX6_find : ByteArray := prog_8_method_2_code
def yX6_find : MethodName := ⟨RX6, "find", "(LBarberMinutes$Town;)V"⟩
abbrev cX6_walk : ByteArray := prog_8_method_3_code
def yX6_walk : MethodName := ⟨RX6, "walk", "(LBarberMinutes$Town;III)V"⟩
abbrev cX6_weigh : ByteArray := prog_8_method_4_code
def yX6_weigh : MethodName := ⟨RX6, "weigh", "(LBarberMinutes$Town;II)V"⟩
def RX7 : String := "BarberMinutes$Town"
def TX7 : u_T := fun k => match k with
  | 0 => ("BarberMinutes$Town", "grows", "I", false)
  | 1 => ("BarberMinutes$Town", "baldBelow", "I", false)
  | 2 => ("BarberMinutes$Town", "shaveChance", "I", false)
  | 3 => ("BarberMinutes$Town", "men", "I", false)
  | 4 => ("BarberMinutes$Town", "colour", "[I", true)
  | 5 => ("BarberMinutes$Town", "firstHair", "[I", true)
  | 6 => ("BarberMinutes$Town", "votes", "[I", true)
  | 7 => ("BarberMinutes$Town", "against", "[I", true)
  | 8 => ("BarberMinutes$Town", "quarrels", "[I", true)
  | 9 => ("BarberMinutes$Town", "motions", "I", false)
  | 10 => ("BarberMinutes$Town", "cuts", "[I", true)
  | 11 => ("BarberMinutes$Town", "needs", "[I", true)
  | 12 => ("BarberMinutes$Town", "worth", "[I", true)
  | 13 => ("BarberMinutes$Town", "amends", "[I", true)
  | 14 => ("BarberMinutes$Town", "rows", "[I", true)
  | 15 => ("BarberMinutes$Town", "chairs", "I", false)
  | 16 => ("BarberMinutes$Town", "chairAt", "[I", true)
  | 17 => ("BarberMinutes$Town", "heap", "[I", true)
  | _ => ("BarberMinutes$Town", "heapsTold", "I", false)
def tyX7 : Nat → FieldType := fun k => match k with
  | 0 => .int
  | 1 => .int
  | 2 => .int
  | 3 => .int
  | 4 => .array .int
  | 5 => .array .int
  | 6 => .array .int
  | 7 => .array .int
  | 8 => .array .int
  | 9 => .int
  | 10 => .array .int
  | 11 => .array .int
  | 12 => .array .int
  | 13 => .array .int
  | 14 => .array .int
  | 15 => .int
  | 16 => .array .int
  | 17 => .array .int
  | _ => .int
abbrev wsX70 : List Cond := u_ws RX7 TX7 19
theorem nmX7 : ∀ a, a < 19 → ∀ b, b < 19 → a ≠ b → (TX7 a).2.1 ≠ (TX7 b).2.1 := by decide +kernel
theorem tyX7_ok : ∀ k, k < 19 → parseFieldDescriptor (TX7 k).2.2.1 = some (tyX7 k) := by decide +kernel
abbrev cX7_init : ByteArray := prog_9_method_1_code
def yX7_init : MethodName := ⟨RX7, "<init>", "()V"⟩
abbrev cX7_clear : ByteArray := prog_9_method_2_code
def yX7_clear : MethodName := ⟨RX7, "clear", "()V"⟩
abbrev cX7_addMan : ByteArray := prog_9_method_3_code
def yX7_addMan : MethodName := ⟨RX7, "addMan", "(III)V"⟩
abbrev cX7_addMotion : ByteArray := prog_9_method_4_code
def yX7_addMotion : MethodName := ⟨RX7, "addMotion", "(III)V"⟩
abbrev cX7_addChair : ByteArray := prog_9_method_5_code
def yX7_addChair : MethodName := ⟨RX7, "addChair", "(I)V"⟩
abbrev cX7_bitsOf : ByteArray := prog_9_method_6_code
def yX7_bitsOf : MethodName := ⟨RX7, "bitsOf", "([II)I"⟩
abbrev cX7_votesOf : ByteArray := prog_9_method_7_code
def yX7_votesOf : MethodName := ⟨RX7, "votesOf", "(I)I"⟩
abbrev cX7_amenders : ByteArray := prog_9_method_8_code
def yX7_amenders : MethodName := ⟨RX7, "amenders", "(I)I"⟩
abbrev cX7_rowUpTo : ByteArray := prog_9_method_9_code
def yX7_rowUpTo : MethodName := ⟨RX7, "rowUpTo", "(I)I"⟩
abbrev cX7_quarrelsTold : ByteArray := prog_9_method_10_code
def yX7_quarrelsTold : MethodName := ⟨RX7, "quarrelsTold", "()I"⟩
abbrev cX7_quarrelsAcross : ByteArray := prog_9_method_11_code
def yX7_quarrelsAcross : MethodName := ⟨RX7, "quarrelsAcross", "(I)I"⟩
abbrev cX7_bestSide : ByteArray := prog_9_method_12_code
def yX7_bestSide : MethodName := ⟨RX7, "bestSide", "()I"⟩
abbrev cX7_fewestQuarrellers : ByteArray := prog_9_method_13_code
def yX7_fewestQuarrellers : MethodName := ⟨RX7, "fewestQuarrellers", "()I"⟩
abbrev cX7_isQuietWithout : ByteArray := prog_9_method_14_code
def yX7_isQuietWithout : MethodName := ⟨RX7, "isQuietWithout", "(I)Z"⟩
abbrev cX7_wayBetween : ByteArray := prog_9_method_15_code
def yX7_wayBetween : MethodName := ⟨RX7, "wayBetween", "(II)I"⟩
def RX8 : String := "BarberMinutes"
def TX8 : u_T := fun k => match k with
  | 0 => ("BarberMinutes", "tape", "[B", true)
  | 1 => ("BarberMinutes", "taped", "I", false)
  | 2 => ("BarberMinutes", "reader", "LBarberMinutes$Reader;", true)
  | 3 => ("BarberMinutes", "town", "LBarberMinutes$Town;", false)
  | 4 => ("BarberMinutes", "spare", "LBarberMinutes$Town;", false)
  | 5 => ("BarberMinutes", "now", "LBarberMinutes$Minutes;", true)
  | 6 => ("BarberMinutes", "trial", "LBarberMinutes$Minutes;", true)
  | 7 => ("BarberMinutes", "past", "LBarberMinutes$Past;", true)
  | 8 => ("BarberMinutes", "agenda", "LBarberMinutes$Agenda;", true)
  | 9 => ("BarberMinutes", "tour", "LBarberMinutes$Tour;", true)
  | 10 => ("BarberMinutes", "sweepings", "LBarberMinutes$Sweepings;", true)
  | 11 => ("BarberMinutes", "chance", "LBarberMinutes$Chance;", true)
  | 12 => ("BarberMinutes", "fault", "I", false)
  | 13 => ("BarberMinutes", "place", "I", false)
  | _ => ("BarberMinutes", "trouble", "I", false)
def tyX8 : Nat → FieldType := fun k => match k with
  | 0 => .array .byte
  | 1 => .int
  | 2 => .object "BarberMinutes$Reader"
  | 3 => .object "BarberMinutes$Town"
  | 4 => .object "BarberMinutes$Town"
  | 5 => .object "BarberMinutes$Minutes"
  | 6 => .object "BarberMinutes$Minutes"
  | 7 => .object "BarberMinutes$Past"
  | 8 => .object "BarberMinutes$Agenda"
  | 9 => .object "BarberMinutes$Tour"
  | 10 => .object "BarberMinutes$Sweepings"
  | 11 => .object "BarberMinutes$Chance"
  | 12 => .int
  | 13 => .int
  | _ => .int
abbrev wsX80 : List Cond := u_ws RX8 TX8 15
theorem nmX8 : ∀ a, a < 15 → ∀ b, b < 15 → a ≠ b → (TX8 a).2.1 ≠ (TX8 b).2.1 := by decide +kernel
theorem tyX8_ok : ∀ k, k < 15 → parseFieldDescriptor (TX8 k).2.2.1 = some (tyX8 k) := by decide +kernel
abbrev cX8_init : ByteArray := prog_1_method_1_code
def yX8_init : MethodName := ⟨RX8, "<init>", "()V"⟩
abbrev cX8_feed : ByteArray := prog_1_method_2_code
def yX8_feed : MethodName := ⟨RX8, "feed", "(IIIII)I"⟩
abbrev cX8_store : ByteArray := prog_1_method_3_code
def yX8_store : MethodName := ⟨RX8, "store", "(I)V"⟩
abbrev cX8_town : ByteArray := prog_1_method_4_code
def yX8_town : MethodName := ⟨RX8, "town", "(I)I"⟩
abbrev cX8_fault : ByteArray := prog_1_method_5_code
def yX8_fault : MethodName := ⟨RX8, "fault", "()I"⟩
abbrev cX8_where : ByteArray := prog_1_method_6_code
def yX8_where : MethodName := ⟨RX8, "where", "()I"⟩
abbrev cX8_man : ByteArray := prog_1_method_7_code
def yX8_man : MethodName := ⟨RX8, "man", "(II)I"⟩
abbrev cX8_motion : ByteArray := prog_1_method_8_code
def yX8_motion : MethodName := ⟨RX8, "motion", "(II)I"⟩
abbrev cX8_floor : ByteArray := prog_1_method_9_code
def yX8_floor : MethodName := ⟨RX8, "floor", "(I)I"⟩
abbrev cX8_bald : ByteArray := prog_1_method_10_code
def yX8_bald : MethodName := ⟨RX8, "bald", "()I"⟩
abbrev cX8_longest : ByteArray := prog_1_method_11_code
def yX8_longest : MethodName := ⟨RX8, "longest", "()I"⟩
abbrev cX8_ready : ByteArray := prog_1_method_12_code
def yX8_ready : MethodName := ⟨RX8, "ready", "()I"⟩
abbrev cX8_quorum : ByteArray := prog_1_method_13_code
def yX8_quorum : MethodName := ⟨RX8, "quorum", "()I"⟩
abbrev cX8_behind : ByteArray := prog_1_method_14_code
def yX8_behind : MethodName := ⟨RX8, "behind", "(I)I"⟩
abbrev cX8_depth : ByteArray := prog_1_method_15_code
def yX8_depth : MethodName := ⟨RX8, "depth", "(I)I"⟩
abbrev cX8_longIn : ByteArray := prog_1_method_16_code
def yX8_longIn : MethodName := ⟨RX8, "longIn", "(II)I"⟩
abbrev cX8_yesIn : ByteArray := prog_1_method_17_code
def yX8_yesIn : MethodName := ⟨RX8, "yesIn", "(II)I"⟩
abbrev cX8_carryIn : ByteArray := prog_1_method_18_code
def yX8_carryIn : MethodName := ⟨RX8, "carryIn", "(I)I"⟩
abbrev cX8_hairyIn : ByteArray := prog_1_method_19_code
def yX8_hairyIn : MethodName := ⟨RX8, "hairyIn", "()I"⟩
abbrev cX8_soonest : ByteArray := prog_1_method_20_code
def yX8_soonest : MethodName := ⟨RX8, "soonest", "()I"⟩
abbrev cX8_lookAhead : ByteArray := prog_1_method_21_code
def yX8_lookAhead : MethodName := ⟨RX8, "lookAhead", "(I)V"⟩
abbrev cX8_weeksUntilEnough : ByteArray := prog_1_method_22_code
def yX8_weeksUntilEnough : MethodName := ⟨RX8, "weeksUntilEnough", "(I)I"⟩
abbrev cX8_worthOf : ByteArray := prog_1_method_23_code
def yX8_worthOf : MethodName := ⟨RX8, "worthOf", "(II)I"⟩
abbrev cX8_bestRow : ByteArray := prog_1_method_24_code
def yX8_bestRow : MethodName := ⟨RX8, "bestRow", "(I)I"⟩
abbrev cX8_bestWorth : ByteArray := prog_1_method_25_code
def yX8_bestWorth : MethodName := ⟨RX8, "bestWorth", "(I)I"⟩
abbrev cX8_bestCarried : ByteArray := prog_1_method_26_code
def yX8_bestCarried : MethodName := ⟨RX8, "bestCarried", "(I)I"⟩
abbrev cX8_weeksFor : ByteArray := prog_1_method_27_code
def yX8_weeksFor : MethodName := ⟨RX8, "weeksFor", "(I)I"⟩
abbrev cX8_lacksAgenda : ByteArray := prog_1_method_28_code
def yX8_lacksAgenda : MethodName := ⟨RX8, "lacksAgenda", "(I)Z"⟩
abbrev cX8_swings : ByteArray := prog_1_method_29_code
def yX8_swings : MethodName := ⟨RX8, "swings", "(II)I"⟩
abbrev cX8_mighty : ByteArray := prog_1_method_30_code
def yX8_mighty : MethodName := ⟨RX8, "mighty", "(I)I"⟩
abbrev cX8_outvoted : ByteArray := prog_1_method_31_code
def yX8_outvoted : MethodName := ⟨RX8, "outvoted", "(I)I"⟩
abbrev cX8_bench : ByteArray := prog_1_method_32_code
def yX8_bench : MethodName := ⟨RX8, "bench", "(I)I"⟩
abbrev cX8_parting : ByteArray := prog_1_method_33_code
def yX8_parting : MethodName := ⟨RX8, "parting", "()I"⟩
abbrev cX8_left : ByteArray := prog_1_method_34_code
def yX8_left : MethodName := ⟨RX8, "left", "()I"⟩
abbrev cX8_peace : ByteArray := prog_1_method_35_code
def yX8_peace : MethodName := ⟨RX8, "peace", "()I"⟩
abbrev cX8_lacksNeeds : ByteArray := prog_1_method_36_code
def yX8_lacksNeeds : MethodName := ⟨RX8, "lacksNeeds", "(I)Z"⟩
abbrev cX8_apart : ByteArray := prog_1_method_37_code
def yX8_apart : MethodName := ⟨RX8, "apart", "(II)I"⟩
abbrev cX8_round : ByteArray := prog_1_method_38_code
def yX8_round : MethodName := ⟨RX8, "round", "()I"⟩
abbrev cX8_roundAt : ByteArray := prog_1_method_39_code
def yX8_roundAt : MethodName := ⟨RX8, "roundAt", "(I)I"⟩
abbrev cX8_fits : ByteArray := prog_1_method_40_code
def yX8_fits : MethodName := ⟨RX8, "fits", "()I"⟩
abbrev cX8_fitAt : ByteArray := prog_1_method_41_code
def yX8_fitAt : MethodName := ⟨RX8, "fitAt", "(I)I"⟩
abbrev cX8_could : ByteArray := prog_1_method_42_code
def yX8_could : MethodName := ⟨RX8, "could", "()I"⟩
abbrev cX8_surely : ByteArray := prog_1_method_43_code
def yX8_surely : MethodName := ⟨RX8, "surely", "()I"⟩
abbrev cX8_ask : ByteArray := prog_1_method_44_code
def yX8_ask : MethodName := ⟨RX8, "ask", "()I"⟩
abbrev cX8_askLeaves : ByteArray := prog_1_method_45_code
def yX8_askLeaves : MethodName := ⟨RX8, "askLeaves", "()I"⟩
abbrev cX8_cannotSweep : ByteArray := prog_1_method_46_code
def yX8_cannotSweep : MethodName := ⟨RX8, "cannotSweep", "()Z"⟩
abbrev cX8_talk : ByteArray := prog_1_method_47_code
def yX8_talk : MethodName := ⟨RX8, "talk", "(IZZZ)I"⟩
abbrev cX8_rests : ByteArray := prog_1_method_48_code
def yX8_rests : MethodName := ⟨RX8, "rests", "(I)I"⟩
abbrev cX8_rest : ByteArray := prog_1_method_49_code
def yX8_rest : MethodName := ⟨RX8, "rest", "(I)I"⟩
abbrev cX8_lacksLather : ByteArray := prog_1_method_50_code
def yX8_lacksLather : MethodName := ⟨RX8, "lacksLather", "(I)Z"⟩
abbrev cX8_share : ByteArray := prog_1_method_51_code
def yX8_share : MethodName := ⟨RX8, "share", "(IZZ)I"⟩
abbrev cX8_isRest : ByteArray := prog_1_method_52_code
def yX8_isRest : MethodName := ⟨RX8, "isRest", "(II)Z"⟩
abbrev cX8_odds : ByteArray := prog_1_method_53_code
def yX8_odds : MethodName := ⟨RX8, "odds", "(IZ)J"⟩
abbrev cX8_mean : ByteArray := prog_1_method_54_code
def yX8_mean : MethodName := ⟨RX8, "mean", "(IZ)J"⟩
abbrev cX8_shaves : ByteArray := prog_1_method_55_code
def yX8_shaves : MethodName := ⟨RX8, "shaves", "(III)I"⟩
abbrev cX8_carries : ByteArray := prog_1_method_56_code
def yX8_carries : MethodName := ⟨RX8, "carries", "(III)I"⟩
abbrev cX8_lacksDraws : ByteArray := prog_1_method_57_code
def yX8_lacksDraws : MethodName := ⟨RX8, "lacksDraws", "(II)Z"⟩
abbrev cX8_put : ByteArray := prog_1_method_58_code
def yX8_put : MethodName := ⟨RX8, "put", "(I)I"⟩
abbrev cX8_week : ByteArray := prog_1_method_59_code
def yX8_week : MethodName := ⟨RX8, "week", "()I"⟩
abbrev cX8_shave : ByteArray := prog_1_method_60_code
def yX8_shave : MethodName := ⟨RX8, "shave", "(I)I"⟩
abbrev cX8_undo : ByteArray := prog_1_method_61_code
def yX8_undo : MethodName := ⟨RX8, "undo", "()Z"⟩
abbrev cX8_image : ByteArray := prog_1_method_62_code
def yX8_image : MethodName := ⟨RX8, "image", "()I"⟩
abbrev cX8_back : ByteArray := prog_1_method_63_code
def yX8_back : MethodName := ⟨RX8, "back", "(I)Z"⟩
abbrev cX8_led : ByteArray := prog_1_method_64_code
def yX8_led : MethodName := ⟨RX8, "led", "(I)I"⟩
abbrev cX8_size : ByteArray := prog_1_method_65_code
def yX8_size : MethodName := ⟨RX8, "size", "(I)I"⟩
abbrev cX8_trouble : ByteArray := prog_1_method_66_code
def yX8_trouble : MethodName := ⟨RX8, "trouble", "()I"⟩
abbrev cX8_refused : ByteArray := prog_1_method_67_code
def yX8_refused : MethodName := ⟨RX8, "refused", "(I)I"⟩
abbrev cX8_refusedOf : ByteArray := prog_1_method_68_code
def yX8_refusedOf : MethodName := ⟨RX8, "refusedOf", "(Z)Z"⟩
abbrev cX8_granted : ByteArray := prog_1_method_69_code
def yX8_granted : MethodName := ⟨RX8, "granted", "(I)I"⟩
abbrev cX8_noTown : ByteArray := prog_1_method_70_code
def yX8_noTown : MethodName := ⟨RX8, "noTown", "()Z"⟩
abbrev cX8_lacksMan : ByteArray := prog_1_method_71_code
def yX8_lacksMan : MethodName := ⟨RX8, "lacksMan", "(I)Z"⟩
abbrev cX8_lacksMotion : ByteArray := prog_1_method_72_code
def yX8_lacksMotion : MethodName := ⟨RX8, "lacksMotion", "(I)Z"⟩
abbrev cX8_lacksChair : ByteArray := prog_1_method_73_code
def yX8_lacksChair : MethodName := ⟨RX8, "lacksChair", "(I)Z"⟩
def RX9 : String := "BarberMinutesModel"
def TX9 : u_T := fun k => match k with
  | 0 => ("BarberMinutesModel", "thrown", "I", false)
  | 1 => ("BarberMinutesModel", "tape", "[I", true)
  | 2 => ("BarberMinutesModel", "taped", "I", false)
  | 3 => ("BarberMinutesModel", "size", "I", false)
  | 4 => ("BarberMinutesModel", "at", "I", false)
  | 5 => ("BarberMinutesModel", "end", "I", false)
  | 6 => ("BarberMinutesModel", "token", "I", false)
  | 7 => ("BarberMinutesModel", "whole", "I", false)
  | 8 => ("BarberMinutesModel", "nameSize", "I", false)
  | 9 => ("BarberMinutesModel", "fault", "I", false)
  | 10 => ("BarberMinutesModel", "place", "I", false)
  | 11 => ("BarberMinutesModel", "trouble", "I", false)
  | 12 => ("BarberMinutesModel", "letters", "[I", true)
  | 13 => ("BarberMinutesModel", "failed", "Z", false)
  | 14 => ("BarberMinutesModel", "hasTown", "Z", false)
  | 15 => ("BarberMinutesModel", "\x72", "[I", true)
  | 16 => ("BarberMinutesModel", "fresh", "[I", true)
  | 17 => ("BarberMinutesModel", "st", "[I", true)
  | 18 => ("BarberMinutesModel", "undone", "[I", true)
  | 19 => ("BarberMinutesModel", "kept", "[I", true)
  | 20 => ("BarberMinutesModel", "undos", "I", false)
  | 21 => ("BarberMinutesModel", "images", "I", false)
  | 22 => ("BarberMinutesModel", "trial", "[I", true)
  | 23 => ("BarberMinutesModel", "way", "[I", true)
  | 24 => ("BarberMinutesModel", "best", "[I", true)
  | 25 => ("BarberMinutesModel", "leastWay", "I", false)
  | 26 => ("BarberMinutesModel", "often", "[I", true)
  | 27 => ("BarberMinutesModel", "setMany", "I", false)
  | 28 => ("BarberMinutesModel", "someOf", "I", false)
  | 29 => ("BarberMinutesModel", "allOf", "I", false)
  | 30 => ("BarberMinutesModel", "firstRest", "I", false)
  | 31 => ("BarberMinutesModel", "allWeight", "J", false)
  | 32 => ("BarberMinutesModel", "enoughWeight", "J", false)
  | 33 => ("BarberMinutesModel", "yesSum", "J", false)
  | _ => ("BarberMinutesModel", "carriedIn", "I", false)
def tyX9 : Nat → FieldType := fun k => match k with
  | 0 => .int
  | 1 => .array .int
  | 2 => .int
  | 3 => .int
  | 4 => .int
  | 5 => .int
  | 6 => .int
  | 7 => .int
  | 8 => .int
  | 9 => .int
  | 10 => .int
  | 11 => .int
  | 12 => .array .int
  | 13 => .boolean
  | 14 => .boolean
  | 15 => .array .int
  | 16 => .array .int
  | 17 => .array .int
  | 18 => .array .int
  | 19 => .array .int
  | 20 => .int
  | 21 => .int
  | 22 => .array .int
  | 23 => .array .int
  | 24 => .array .int
  | 25 => .int
  | 26 => .array .int
  | 27 => .int
  | 28 => .int
  | 29 => .int
  | 30 => .int
  | 31 => .long
  | 32 => .long
  | 33 => .long
  | _ => .int
abbrev wsX90 : List Cond := u_ws RX9 TX9 35
theorem nmX9 : ∀ a, a < 35 → ∀ b, b < 35 → a ≠ b → (TX9 a).2.1 ≠ (TX9 b).2.1 := by decide +kernel
theorem tyX9_ok : ∀ k, k < 35 → parseFieldDescriptor (TX9 k).2.2.1 = some (tyX9 k) := by decide +kernel
abbrev cX9_init : ByteArray := prog_11_method_1_code
def yX9_init : MethodName := ⟨RX9, "<init>", "()V"⟩
abbrev cX9_good : ByteArray := prog_11_method_3_code
def yX9_good : MethodName := ⟨RX9, "good", "()V"⟩
abbrev cX9_no : ByteArray := prog_11_method_4_code
def yX9_no : MethodName := ⟨RX9, "no", "(I)I"⟩
abbrev cX9_isNot : ByteArray := prog_11_method_5_code
def yX9_isNot : MethodName := ⟨RX9, "isNot", "(I)Z"⟩
abbrev cX9_in : ByteArray := prog_11_method_6_code
def yX9_in : MethodName := ⟨RX9, "in", "(III)Z"⟩
abbrev cX9_hasBit : ByteArray := prog_11_method_7_code
def yX9_hasBit : MethodName := ⟨RX9, "hasBit", "(II)Z"⟩
abbrev cX9_ones : ByteArray := prog_11_method_8_code
def yX9_ones : MethodName := ⟨RX9, "ones", "(I)I"⟩
abbrev cX9_copy : ByteArray := prog_11_method_9_code
def yX9_copy : MethodName := ⟨RX9, "copy", "([II[III)V"⟩
abbrev cX9_lowest : ByteArray := prog_11_method_10_code
def yX9_lowest : MethodName := ⟨RX9, "lowest", "(JJZ)J"⟩
abbrev cX9_feed : ByteArray := prog_11_method_11_code
def yX9_feed : MethodName := ⟨RX9, "feed", "(IIIII)I"⟩
abbrev cX9_see : ByteArray := prog_11_method_12_code
def yX9_see : MethodName := ⟨RX9, "see", "(I)I"⟩
abbrev cX9_isSmall : ByteArray := prog_11_method_13_code
def yX9_isSmall : MethodName := ⟨RX9, "isSmall", "(I)Z"⟩
abbrev cX9_isDigit : ByteArray := prog_11_method_14_code
def yX9_isDigit : MethodName := ⟨RX9, "isDigit", "(I)Z"⟩
abbrev cX9_next : ByteArray := prog_11_method_15_code
def yX9_next : MethodName := ⟨RX9, "next", "()V"⟩
abbrev cX9_wrong : ByteArray := prog_11_method_16_code
def yX9_wrong : MethodName := ⟨RX9, "wrong", "(II)V"⟩
abbrev cX9_isWord : ByteArray := prog_11_method_17_code
def yX9_isWord : MethodName := ⟨RX9, "isWord", "(Ljava/lang/String;)Z"⟩
abbrev cX9_takesWord : ByteArray := prog_11_method_18_code
def yX9_takesWord : MethodName := ⟨RX9, "takesWord", "(Ljava/lang/String;)Z"⟩
abbrev cX9_must : ByteArray := prog_11_method_19_code
def yX9_must : MethodName := ⟨RX9, "must", "(Ljava/lang/String;)V"⟩
abbrev cX9_mustName : ByteArray := prog_11_method_20_code
def yX9_mustName : MethodName := ⟨RX9, "mustName", "()V"⟩
abbrev cX9_find : ByteArray := prog_11_method_21_code
def yX9_find : MethodName := ⟨RX9, "find", "()I"⟩
abbrev cX9_newName : ByteArray := prog_11_method_22_code
def yX9_newName : MethodName := ⟨RX9, "newName", "(I)V"⟩
abbrev cX9_named : ByteArray := prog_11_method_23_code
def yX9_named : MethodName := ⟨RX9, "named", "(II)I"⟩
abbrev cX9_manHere : ByteArray := prog_11_method_24_code
def yX9_manHere : MethodName := ⟨RX9, "manHere", "()I"⟩
abbrev cX9_motionHere : ByteArray := prog_11_method_25_code
def yX9_motionHere : MethodName := ⟨RX9, "motionHere", "()I"⟩
abbrev cX9_pass : ByteArray := prog_11_method_26_code
def yX9_pass : MethodName := ⟨RX9, "pass", "()V"⟩
abbrev cX9_number : ByteArray := prog_11_method_27_code
def yX9_number : MethodName := ⟨RX9, "number", "(II)I"⟩
abbrev cX9_after : ByteArray := prog_11_method_28_code
def yX9_after : MethodName := ⟨RX9, "after", "(Ljava/lang/String;II)I"⟩
abbrev cX9_colourHere : ByteArray := prog_11_method_29_code
def yX9_colourHere : MethodName := ⟨RX9, "colourHere", "()I"⟩
abbrev cX9_town : ByteArray := prog_11_method_30_code
def yX9_town : MethodName := ⟨RX9, "town", "(I)I"⟩
abbrev cX9_asTold : ByteArray := prog_11_method_31_code
def yX9_asTold : MethodName := ⟨RX9, "asTold", "([I)V"⟩
abbrev cX9_begins : ByteArray := prog_11_method_32_code
def yX9_begins : MethodName := ⟨RX9, "begins", "(Ljava/lang/String;Z)Z"⟩
abbrev cX9_readLine : ByteArray := prog_11_method_33_code
def yX9_readLine : MethodName := ⟨RX9, "readLine", "()V"⟩
abbrev cX9_townLine : ByteArray := prog_11_method_34_code
def yX9_townLine : MethodName := ⟨RX9, "townLine", "()V"⟩
abbrev cX9_manLine : ByteArray := prog_11_method_35_code
def yX9_manLine : MethodName := ⟨RX9, "manLine", "()V"⟩
abbrev cX9_motionLine : ByteArray := prog_11_method_36_code
def yX9_motionLine : MethodName := ⟨RX9, "motionLine", "()V"⟩
abbrev cX9_againstLine : ByteArray := prog_11_method_37_code
def yX9_againstLine : MethodName := ⟨RX9, "againstLine", "()V"⟩
abbrev cX9_amendsLine : ByteArray := prog_11_method_38_code
def yX9_amendsLine : MethodName := ⟨RX9, "amendsLine", "()V"⟩
abbrev cX9_quarrelLine : ByteArray := prog_11_method_39_code
def yX9_quarrelLine : MethodName := ⟨RX9, "quarrelLine", "()V"⟩
abbrev cX9_chairLine : ByteArray := prog_11_method_40_code
def yX9_chairLine : MethodName := ⟨RX9, "chairLine", "()V"⟩
abbrev cX9_heapLine : ByteArray := prog_11_method_41_code
def yX9_heapLine : MethodName := ⟨RX9, "heapLine", "()V"⟩
abbrev cX9_fault : ByteArray := prog_11_method_42_code
def yX9_fault : MethodName := ⟨RX9, "fault", "()I"⟩
abbrev cX9_where : ByteArray := prog_11_method_43_code
def yX9_where : MethodName := ⟨RX9, "where", "()I"⟩
abbrev cX9_isMan : ByteArray := prog_11_method_44_code
def yX9_isMan : MethodName := ⟨RX9, "isMan", "(I)Z"⟩
abbrev cX9_isMotion : ByteArray := prog_11_method_45_code
def yX9_isMotion : MethodName := ⟨RX9, "isMotion", "(I)Z"⟩
abbrev cX9_isChair : ByteArray := prog_11_method_46_code
def yX9_isChair : MethodName := ⟨RX9, "isChair", "(I)Z"⟩
abbrev cX9_allMen : ByteArray := prog_11_method_47_code
def yX9_allMen : MethodName := ⟨RX9, "allMen", "()I"⟩
abbrev cX9_isBald : ByteArray := prog_11_method_48_code
def yX9_isBald : MethodName := ⟨RX9, "isBald", "([II)Z"⟩
abbrev cX9_baldOf : ByteArray := prog_11_method_49_code
def yX9_baldOf : MethodName := ⟨RX9, "baldOf", "([I)I"⟩
abbrev cX9_doesSay : ByteArray := prog_11_method_50_code
def yX9_doesSay : MethodName := ⟨RX9, "doesSay", "([III)Z"⟩
abbrev cX9_sayersOf : ByteArray := prog_11_method_51_code
def yX9_sayersOf : MethodName := ⟨RX9, "sayersOf", "([II)I"⟩
abbrev cX9_votesOf : ByteArray := prog_11_method_52_code
def yX9_votesOf : MethodName := ⟨RX9, "votesOf", "(I)I"⟩
abbrev cX9_yesOf : ByteArray := prog_11_method_53_code
def yX9_yesOf : MethodName := ⟨RX9, "yesOf", "([II)I"⟩
abbrev cX9_isEnough : ByteArray := prog_11_method_54_code
def yX9_isEnough : MethodName := ⟨RX9, "isEnough", "([II)Z"⟩
abbrev cX9_mayBePut : ByteArray := prog_11_method_55_code
def yX9_mayBePut : MethodName := ⟨RX9, "mayBePut", "([II)Z"⟩
abbrev cX9_cutBy : ByteArray := prog_11_method_56_code
def yX9_cutBy : MethodName := ⟨RX9, "cutBy", "([II)V"⟩
abbrev cX9_putOf : ByteArray := prog_11_method_57_code
def yX9_putOf : MethodName := ⟨RX9, "putOf", "([II)Z"⟩
abbrev cX9_weekOf : ByteArray := prog_11_method_58_code
def yX9_weekOf : MethodName := ⟨RX9, "weekOf", "([I)V"⟩
abbrev cX9_goOver : ByteArray := prog_11_method_59_code
def yX9_goOver : MethodName := ⟨RX9, "goOver", "(I)V"⟩
abbrev cX9_man : ByteArray := prog_11_method_60_code
def yX9_man : MethodName := ⟨RX9, "man", "(II)I"⟩
abbrev cX9_saidBy : ByteArray := prog_11_method_61_code
def yX9_saidBy : MethodName := ⟨RX9, "saidBy", "(I)I"⟩
abbrev cX9_motion : ByteArray := prog_11_method_62_code
def yX9_motion : MethodName := ⟨RX9, "motion", "(II)I"⟩
abbrev cX9_floor : ByteArray := prog_11_method_63_code
def yX9_floor : MethodName := ⟨RX9, "floor", "(I)I"⟩
abbrev cX9_bald : ByteArray := prog_11_method_64_code
def yX9_bald : MethodName := ⟨RX9, "bald", "()I"⟩
abbrev cX9_longest : ByteArray := prog_11_method_65_code
def yX9_longest : MethodName := ⟨RX9, "longest", "()I"⟩
abbrev cX9_ready : ByteArray := prog_11_method_66_code
def yX9_ready : MethodName := ⟨RX9, "ready", "()I"⟩
abbrev cX9_hairy : ByteArray := prog_11_method_67_code
def yX9_hairy : MethodName := ⟨RX9, "hairy", "()I"⟩
abbrev cX9_quorum : ByteArray := prog_11_method_68_code
def yX9_quorum : MethodName := ⟨RX9, "quorum", "()I"⟩
abbrev cX9_behind : ByteArray := prog_11_method_69_code
def yX9_behind : MethodName := ⟨RX9, "behind", "(I)I"⟩
abbrev cX9_depthOf : ByteArray := prog_11_method_70_code
def yX9_depthOf : MethodName := ⟨RX9, "depthOf", "(I)I"⟩
abbrev cX9_depth : ByteArray := prog_11_method_71_code
def yX9_depth : MethodName := ⟨RX9, "depth", "(I)I"⟩
abbrev cX9_why : ByteArray := prog_11_method_72_code
def yX9_why : MethodName := ⟨RX9, "why", "(ZZ)I"⟩
abbrev cX9_longIn : ByteArray := prog_11_method_73_code
def yX9_longIn : MethodName := ⟨RX9, "longIn", "(II)I"⟩
abbrev cX9_yesIn : ByteArray := prog_11_method_74_code
def yX9_yesIn : MethodName := ⟨RX9, "yesIn", "(II)I"⟩
abbrev cX9_carryOf : ByteArray := prog_11_method_75_code
def yX9_carryOf : MethodName := ⟨RX9, "carryOf", "(I)I"⟩
abbrev cX9_carryIn : ByteArray := prog_11_method_76_code
def yX9_carryIn : MethodName := ⟨RX9, "carryIn", "(I)I"⟩
abbrev cX9_hairyIn : ByteArray := prog_11_method_77_code
def yX9_hairyIn : MethodName := ⟨RX9, "hairyIn", "()I"⟩
abbrev cX9_soonest : ByteArray := prog_11_method_78_code
def yX9_soonest : MethodName := ⟨RX9, "soonest", "()I"⟩
abbrev cX9_goBy : ByteArray := prog_11_method_79_code
def yX9_goBy : MethodName := ⟨RX9, "goBy", "(II)I"⟩
abbrev cX9_isRowOf : ByteArray := prog_11_method_80_code
def yX9_isRowOf : MethodName := ⟨RX9, "isRowOf", "(II)Z"⟩
abbrev cX9_worthOf : ByteArray := prog_11_method_81_code
def yX9_worthOf : MethodName := ⟨RX9, "worthOf", "(II)I"⟩
abbrev cX9_rowsOf : ByteArray := prog_11_method_82_code
def yX9_rowsOf : MethodName := ⟨RX9, "rowsOf", "(I)I"⟩
abbrev cX9_bestOf : ByteArray := prog_11_method_83_code
def yX9_bestOf : MethodName := ⟨RX9, "bestOf", "(I)I"⟩
abbrev cX9_bestRow : ByteArray := prog_11_method_84_code
def yX9_bestRow : MethodName := ⟨RX9, "bestRow", "(I)I"⟩
abbrev cX9_bestWorth : ByteArray := prog_11_method_85_code
def yX9_bestWorth : MethodName := ⟨RX9, "bestWorth", "(I)I"⟩
abbrev cX9_bestCarried : ByteArray := prog_11_method_86_code
def yX9_bestCarried : MethodName := ⟨RX9, "bestCarried", "(I)I"⟩
abbrev cX9_weeksFor : ByteArray := prog_11_method_87_code
def yX9_weeksFor : MethodName := ⟨RX9, "weeksFor", "(I)I"⟩
abbrev cX9_turnsOf : ByteArray := prog_11_method_88_code
def yX9_turnsOf : MethodName := ⟨RX9, "turnsOf", "(II)I"⟩
abbrev cX9_swings : ByteArray := prog_11_method_89_code
def yX9_swings : MethodName := ⟨RX9, "swings", "(II)I"⟩
abbrev cX9_mighty : ByteArray := prog_11_method_90_code
def yX9_mighty : MethodName := ⟨RX9, "mighty", "(I)I"⟩
abbrev cX9_outvoted : ByteArray := prog_11_method_91_code
def yX9_outvoted : MethodName := ⟨RX9, "outvoted", "(I)I"⟩
abbrev cX9_bench : ByteArray := prog_11_method_92_code
def yX9_bench : MethodName := ⟨RX9, "bench", "(I)I"⟩
abbrev cX9_quarrelsOf : ByteArray := prog_11_method_93_code
def yX9_quarrelsOf : MethodName := ⟨RX9, "quarrelsOf", "(II)I"⟩
abbrev cX9_partingOf : ByteArray := prog_11_method_94_code
def yX9_partingOf : MethodName := ⟨RX9, "partingOf", "()I"⟩
abbrev cX9_parting : ByteArray := prog_11_method_95_code
def yX9_parting : MethodName := ⟨RX9, "parting", "()I"⟩
abbrev cX9_left : ByteArray := prog_11_method_96_code
def yX9_left : MethodName := ⟨RX9, "left", "()I"⟩
abbrev cX9_peace : ByteArray := prog_11_method_97_code
def yX9_peace : MethodName := ⟨RX9, "peace", "()I"⟩
abbrev cX9_apartOf : ByteArray := prog_11_method_98_code
def yX9_apartOf : MethodName := ⟨RX9, "apartOf", "(II)I"⟩
abbrev cX9_apart : ByteArray := prog_11_method_99_code
def yX9_apart : MethodName := ⟨RX9, "apart", "(II)I"⟩
abbrev cX9_tryRound : ByteArray := prog_11_method_100_code
def yX9_tryRound : MethodName := ⟨RX9, "tryRound", "(III)V"⟩
abbrev cX9_seekRound : ByteArray := prog_11_method_101_code
def yX9_seekRound : MethodName := ⟨RX9, "seekRound", "()V"⟩
abbrev cX9_round : ByteArray := prog_11_method_102_code
def yX9_round : MethodName := ⟨RX9, "round", "()I"⟩
abbrev cX9_roundAt : ByteArray := prog_11_method_103_code
def yX9_roundAt : MethodName := ⟨RX9, "roundAt", "(I)I"⟩
abbrev cX9_doesFit : ByteArray := prog_11_method_104_code
def yX9_doesFit : MethodName := ⟨RX9, "doesFit", "(I)Z"⟩
abbrev cX9_seekSets : ByteArray := prog_11_method_105_code
def yX9_seekSets : MethodName := ⟨RX9, "seekSets", "(I)I"⟩
abbrev cX9_fits : ByteArray := prog_11_method_106_code
def yX9_fits : MethodName := ⟨RX9, "fits", "()I"⟩
abbrev cX9_fitAt : ByteArray := prog_11_method_107_code
def yX9_fitAt : MethodName := ⟨RX9, "fitAt", "(I)I"⟩
abbrev cX9_could : ByteArray := prog_11_method_108_code
def yX9_could : MethodName := ⟨RX9, "could", "()I"⟩
abbrev cX9_surely : ByteArray := prog_11_method_109_code
def yX9_surely : MethodName := ⟨RX9, "surely", "()I"⟩
abbrev cX9_leavesOf : ByteArray := prog_11_method_110_code
def yX9_leavesOf : MethodName := ⟨RX9, "leavesOf", "(I)I"⟩
abbrev cX9_askOf : ByteArray := prog_11_method_111_code
def yX9_askOf : MethodName := ⟨RX9, "askOf", "()I"⟩
abbrev cX9_ask : ByteArray := prog_11_method_112_code
def yX9_ask : MethodName := ⟨RX9, "ask", "()I"⟩
abbrev cX9_askLeaves : ByteArray := prog_11_method_113_code
def yX9_askLeaves : MethodName := ⟨RX9, "askLeaves", "()I"⟩
abbrev cX9_talkOf : ByteArray := prog_11_method_114_code
def yX9_talkOf : MethodName := ⟨RX9, "talkOf", "(IZZ)I"⟩
abbrev cX9_talk : ByteArray := prog_11_method_115_code
def yX9_talk : MethodName := ⟨RX9, "talk", "(IZZZ)I"⟩
abbrev cX9_isRest : ByteArray := prog_11_method_116_code
def yX9_isRest : MethodName := ⟨RX9, "isRest", "(IZZ)Z"⟩
abbrev cX9_seekRests : ByteArray := prog_11_method_117_code
def yX9_seekRests : MethodName := ⟨RX9, "seekRests", "(I)I"⟩
abbrev cX9_rests : ByteArray := prog_11_method_118_code
def yX9_rests : MethodName := ⟨RX9, "rests", "(I)I"⟩
abbrev cX9_rest : ByteArray := prog_11_method_119_code
def yX9_rest : MethodName := ⟨RX9, "rest", "(I)I"⟩
abbrev cX9_tryShaves : ByteArray := prog_11_method_120_code
def yX9_tryShaves : MethodName := ⟨RX9, "tryShaves", "(I)V"⟩
abbrev cX9_odds : ByteArray := prog_11_method_121_code
def yX9_odds : MethodName := ⟨RX9, "odds", "(IZ)J"⟩
abbrev cX9_mean : ByteArray := prog_11_method_122_code
def yX9_mean : MethodName := ⟨RX9, "mean", "(IZ)J"⟩
abbrev cX9_shavesWhy : ByteArray := prog_11_method_123_code
def yX9_shavesWhy : MethodName := ⟨RX9, "shavesWhy", "(ZIII)I"⟩
abbrev cX9_shaves : ByteArray := prog_11_method_124_code
def yX9_shaves : MethodName := ⟨RX9, "shaves", "(III)I"⟩
abbrev cX9_carries : ByteArray := prog_11_method_125_code
def yX9_carries : MethodName := ⟨RX9, "carries", "(III)I"⟩
abbrev cX9_note : ByteArray := prog_11_method_126_code
def yX9_note : MethodName := ⟨RX9, "note", "()V"⟩
abbrev cX9_put : ByteArray := prog_11_method_127_code
def yX9_put : MethodName := ⟨RX9, "put", "(I)I"⟩
abbrev cX9_week : ByteArray := prog_11_method_128_code
def yX9_week : MethodName := ⟨RX9, "week", "()I"⟩
abbrev cX9_shave : ByteArray := prog_11_method_129_code
def yX9_shave : MethodName := ⟨RX9, "shave", "(I)I"⟩
abbrev cX9_undo : ByteArray := prog_11_method_130_code
def yX9_undo : MethodName := ⟨RX9, "undo", "()Z"⟩
abbrev cX9_image : ByteArray := prog_11_method_131_code
def yX9_image : MethodName := ⟨RX9, "image", "()I"⟩
abbrev cX9_back : ByteArray := prog_11_method_132_code
def yX9_back : MethodName := ⟨RX9, "back", "(I)Z"⟩
abbrev cX9_led : ByteArray := prog_11_method_133_code
def yX9_led : MethodName := ⟨RX9, "led", "(I)I"⟩
abbrev cX9_size : ByteArray := prog_11_method_134_code
def yX9_size : MethodName := ⟨RX9, "size", "(I)I"⟩
abbrev cX9_trouble : ByteArray := prog_11_method_135_code
def yX9_trouble : MethodName := ⟨RX9, "trouble", "()I"⟩
abbrev vwCl : List vw_C := [(RX0, TX0, 5), (RX1, TX1, 3), (RX2, TX2, 4), (RX3, TX3, 5), (RX4, TX4, 14), (RX5, TX5, 3), (RX6, TX6, 3), (RX7, TX7, 19), (RX8, TX8, 15), (RX9, TX9, 35)]
/-! THE ENGINE: an abstract run of the bytecode over a picture of the world; a value is (tag, number): 0 an int, 1 a cell of the world, 2 null, 3 an int variable, 4 a long, 5 a cell that was there before, 6 a long variable -/
abbrev ev_A : Type := Nat × Int
abbrev ev_C : Type := Nat × List ev_A
abbrev ev_K : Type := List (Int × Int)
abbrev ev_G : Type := List Nat × (Nat → Nat) × List Value
abbrev ev_S : Type := Nat × List (Nat × ev_A) × List ev_A × List ev_C × ev_K × Nat × Nat
def ev_v (g : ev_G) (a : ev_A) : Option Value :=
  match a.1 with
  | 0 => some (.int (Int32.ofInt a.2))
  | 1 => (g.1[a.2.toNat]?).map Value.ref
  | 2 => some .null
  | 3 => match g.2.2[a.2.toNat]? with
    | some (.int x) => some (.int x)
    | _ => none
  | 4 => some (.long (Int64.ofInt a.2))
  | 5 => some (.ref (g.2.1 a.2.toNat))
  | 6 => match g.2.2[a.2.toNat]? with
    | some (.long x) => some (.long x)
    | _ => none
  | 7 => match g.2.2[a.2.toNat]? with
    | some .null => some .null
    | some (.ref x) => some (.ref x)
    | _ => none
  | _ => none
def ev_le (g g' : ev_G) : Prop := (∃ l, g'.1 = g.1 ++ l) ∧ g'.2.1 = g.2.1 ∧ ∃ l, g'.2.2 = g.2.2 ++ l
theorem ev_le_rf (g : ev_G) : ev_le g g := ⟨⟨[], by simp⟩, rfl, ⟨[], by simp⟩⟩
theorem ev_le_tr {a b c : ev_G} (h1 : ev_le a b) (h2 : ev_le b c) : ev_le a c := by
  obtain ⟨⟨l1, e1⟩, e2, ⟨l3, e3⟩⟩ := h1
  obtain ⟨⟨k1, f1⟩, f2, ⟨k3, f3⟩⟩ := h2
  exact ⟨⟨l1 ++ k1, by rw [f1, e1, List.append_assoc]⟩, f2.trans e2, ⟨l3 ++ k3, by rw [f3, e3, List.append_assoc]⟩⟩
theorem ev_ap {α : Type} {l k : List α} {i : Nat} {x : α} (h : l[i]? = some x) : (l ++ k)[i]? = some x := by
  rw [List.getElem?_append_left (List.getElem?_eq_some_iff.mp h).1]; exact h
theorem ev_v_le {g g' : ev_G} {a : ev_A} {v : Value} (h : ev_le g g') (hv : ev_v g a = some v) : ev_v g' a = some v := by
  obtain ⟨⟨l1, e1⟩, e2, ⟨l3, e3⟩⟩ := h
  obtain ⟨t, n⟩ := a
  unfold ev_v at hv ⊢
  split at hv
  · exact hv
  · cases hq : g.1[n.toNat]? with
    | none => simp [hq] at hv
    | some q =>
      simp only [hq, Option.map_some] at hv
      simp only [e1, ev_ap hq, Option.map_some]
      exact hv
  · exact hv
  · cases hq : g.2.2[n.toNat]? with
    | none => simp [hq] at hv
    | some q =>
      simp only [hq] at hv
      simp only [e3, ev_ap hq]
      exact hv
  · exact hv
  · simp only [e2]; exact hv
  · cases hq : g.2.2[n.toNat]? with
    | none => simp [hq] at hv
    | some q =>
      simp only [hq] at hv
      simp only [e3, ev_ap hq]
      exact hv
  · cases hq : g.2.2[n.toNat]? with
    | none => simp [hq] at hv
    | some q =>
      simp only [hq] at hv
      simp only [e3, ev_ap hq]
      exact hv
  · cases hv
/-- an int value -/
def ev_isI (a : ev_A) : Bool := a.1 == 0 || a.1 == 3
def ev_isL (a : ev_A) : Bool := a.1 == 4 || a.1 == 6
theorem ev_vI {g : ev_G} {a : ev_A} {v : Value} (h : ev_isI a = true) (hv : ev_v g a = some v) : ∃ x : Int32, v = .int x := by
  obtain ⟨t, n⟩ := a
  simp only [ev_isI, Bool.or_eq_true, beq_iff_eq] at h
  rcases h with h | h
  · subst h
    exact ⟨_, (Option.some.inj hv).symm⟩
  · subst h
    simp only [ev_v] at hv
    split at hv
    · exact ⟨_, (Option.some.inj hv).symm⟩
    · cases hv
theorem ev_vL {g : ev_G} {a : ev_A} {v : Value} (h : ev_isL a = true) (hv : ev_v g a = some v) : ∃ x : Int64, v = .long x := by
  obtain ⟨t, n⟩ := a
  simp only [ev_isL, Bool.or_eq_true, beq_iff_eq] at h
  rcases h with h | h
  · subst h
    exact ⟨_, (Option.some.inj hv).symm⟩
  · subst h
    simp only [ev_v] at hv
    split at hv
    · exact ⟨_, (Option.some.inj hv).symm⟩
    · cases hv
theorem ev_cat {g : ev_G} {a : ev_A} {v : Value} (hv : ev_v g a = some v) : (ev_isL a = true ∧ v.category = 2) ∨ (ev_isL a = false ∧ v.category = 1) := by
  obtain ⟨t, n⟩ := a
  unfold ev_v at hv
  split at hv
  · rename_i h
    simp only at h
    subst h
    cases hv
    exact Or.inr ⟨rfl, rfl⟩
  · rename_i h
    simp only at h
    subst h
    cases hq : g.1[n.toNat]? with
    | none => simp [hq] at hv
    | some q =>
      simp only [hq, Option.map_some] at hv
      cases hv
      exact Or.inr ⟨rfl, rfl⟩
  · rename_i h
    simp only at h
    subst h
    cases hv
    exact Or.inr ⟨rfl, rfl⟩
  · rename_i h
    simp only at h
    subst h
    split at hv
    · cases hv
      exact Or.inr ⟨rfl, rfl⟩
    · cases hv
  · rename_i h
    simp only at h
    subst h
    cases hv
    exact Or.inl ⟨rfl, rfl⟩
  · rename_i h
    simp only at h
    subst h
    cases hv
    exact Or.inr ⟨rfl, rfl⟩
  · rename_i h
    simp only at h
    subst h
    split at hv
    · cases hv
      exact Or.inl ⟨rfl, rfl⟩
    · cases hv
  · rename_i h
    simp only at h
    subst h
    split at hv
    · cases hv
      exact Or.inr ⟨rfl, rfl⟩
    · cases hv
      exact Or.inr ⟨rfl, rfl⟩
    · cases hv
  · cases hv
/-- the words that a callee may take along -/
def lw_good : List Cond := lw_tbl.filter goodWord
theorem lw_good_in {w : Cond} (h : w ∈ lw_good) : w ∈ lw_tbl := (List.mem_filter.mp h).1
theorem lw_good_at {w : Cond} (i : Nat) (h : lw_tbl[i]? = some w) (hg : goodWord w = true) : w ∈ lw_good := List.mem_filter.mpr ⟨List.mem_of_getElem? h, hg⟩
theorem lw_good_good {ws : List Cond} (hy : ∀ w ∈ ws, w ∈ lw_good) : GoodIn lw_good ws := fun w h => ⟨hy w h, good_of_word (List.mem_filter.mp (hy w h)).2⟩
/-- the types of arrays that the worlds hold -/
def ev_ty : Nat → FieldType
  | 0 => .int
  | 1 => .byte
  | 2 => .long
  | _ => .object "BarberMinutes$Minutes"
def ev_ar (g : ev_G) (t : Nat) (cs : List ev_A) (a : (Nat → Int32) ⊕ (Nat → Int64) ⊕ (Nat → UInt32) ⊕ (Nat → UInt64) ⊕ (Nat → Option Nat)) : Prop :=
  match a with
  | .inl f => t < 2 ∧ ∀ (j : Nat) (x : ev_A), cs[j]? = some x → ev_v g x = some (.int (f j))
  | .inr (.inl f) => t = 2 ∧ ∀ (j : Nat) (x : ev_A), cs[j]? = some x → ev_v g x = some (.long (f j))
  | .inr (.inr (.inr (.inr f))) => t = 3 ∧ ∀ (j : Nat) (x : ev_A), cs[j]? = some x → ev_v g x = some (va_rf (f j))
  | _ => False
def ev_c (s : State) (g : ev_G) (c : ev_C) (x : va_E) : Prop := match x with
  | .inr o => c.1 = o.1 ∧ c.1 < 100 ∧ o.2.length = c.2.length ∧ ∀ (j : Nat) (a : ev_A), c.2[j]? = some a → ∃ v, ev_v g a = some v ∧ o.2[j]? = some v
  | .inl a => ∃ t, t < 4 ∧ c.1 = 100 + t ∧ a.2.1 = c.2.length ∧ ArrOfT s a.1 (ev_ty t) ∧ va_RA s a.1 (ev_ty t) ∧ ev_ar g t c.2 a.2.2
theorem ev_ar_le {g g' : ev_G} {t : Nat} {cs : List ev_A} {a} (h : ev_le g g') (h1 : ev_ar g t cs a) : ev_ar g' t cs a := by
  unfold ev_ar at h1 ⊢
  split at h1
  · exact ⟨h1.1, fun j x hx => ev_v_le h (h1.2 j x hx)⟩
  · exact ⟨h1.1, fun j x hx => ev_v_le h (h1.2 j x hx)⟩
  · exact ⟨h1.1, fun j x hx => ev_v_le h (h1.2 j x hx)⟩
  · exact h1
theorem ev_c_le {s : State} {g g' : ev_G} {c : ev_C} {x : va_E} (h : ev_le g g') (h1 : ev_c s g c x) : ev_c s g' c x := by
  cases x with
  | inr o =>
    obtain ⟨a1, a2, a3, a4⟩ := h1
    exact ⟨a1, a2, a3, fun j a hj => by
      obtain ⟨v, b1, b2⟩ := a4 j a hj
      exact ⟨v, ev_v_le h b1, b2⟩⟩
  | inl a =>
    obtain ⟨t, a1, a2, a3, a4, a5, a6⟩ := h1
    exact ⟨t, a1, a2, a3, a4, a5, ev_ar_le h a6⟩
theorem ev_c_moved {u U : State} {g : ev_G} {c : ev_C} {x : va_E} (hvm : u.vm.Alike U.vm) (h1 : ev_c u g c x) : ev_c U g c x := by
  cases x with
  | inr o => exact h1
  | inl a =>
    obtain ⟨t, a1, a2, a3, a4, a5, a6⟩ := h1
    exact ⟨t, a1, a2, a3, arrOfT_moved hvm a4, a5.moved hvm, a6⟩
def ev_w (s : State) (g : ev_G) (w : List ev_C) (ws : va_W) : Prop := g.1 = ws.map (fun q => q.1) ∧ w.length = ws.length ∧ ∀ (k : Nat) (c : ev_C) (q : Nat × va_E), w[k]? = some c → ws[k]? = some q → ev_c s g c q.2
theorem ev_w_moved {u U : State} {g : ev_G} {w : List ev_C} {ws : va_W} (hvm : u.vm.Alike U.vm) (h : ev_w u g w ws) : ev_w U g w ws := ⟨h.1, h.2.1, fun k c q h1 h2 => ev_c_moved hvm (h.2.2 k c q h1 h2)⟩
/-- the bounds of the variables -/
def ev_b (K : ev_K) (E : List Value) : Prop := K.length = E.length ∧ ∀ (k : Nat) (r : Int × Int) (x : Int32), K[k]? = some r → E[k]? = some (.int x) → r.1 ≤ x.toInt ∧ x.toInt ≤ r.2
def ev_l (g : ev_G) (L : List (Nat × ev_A)) (nL : Nat) (ls : Array Slot) : Prop := ls.size = nL ∧ lv_wf ls ∧ ∀ q ∈ L, ∃ v, ev_v g q.2 = some v ∧ ls[q.1]? = some (.val v)
theorem ev_l_le {g g' : ev_G} {L : List (Nat × ev_A)} {nL : Nat} {ls : Array Slot} (h : ev_le g g') (h1 : ev_l g L nL ls) : ev_l g' L nL ls := ⟨h1.1, h1.2.1, fun q hq => by
  obtain ⟨v, a, b⟩ := h1.2.2 q hq
  exact ⟨v, ev_v_le h a, b⟩⟩
def ev_s (g : ev_G) : List ev_A → List Value → Prop
  | [], [] => True
  | a :: st, v :: sc => ev_v g a = some v ∧ ev_s g st sc
  | _, _ => False
theorem ev_s_le {g g' : ev_G} (h : ev_le g g') : ∀ {st : List ev_A} {sc : List Value}, ev_s g st sc → ev_s g' st sc
  | [], [], _ => trivial
  | [], _ :: _, h1 => h1.elim
  | _ :: _, [], h1 => h1.elim
  | a :: st, v :: sc, h1 => ⟨ev_v_le h h1.1, ev_s_le h h1.2⟩
theorem ev_s_cons {g : ev_G} {a : ev_A} {st : List ev_A} {sc : List Value} (h : ev_s g (a :: st) sc) : ∃ v sc', sc = v :: sc' ∧ ev_v g a = some v ∧ ev_s g st sc' := by
  cases sc with
  | nil => exact h.elim
  | cons v sc' => exact ⟨v, sc', rfl, h.1, h.2⟩
theorem ev_s_nil {g : ev_G} {sc : List Value} (h : ev_s g [] sc) : sc = [] := by
  cases sc with
  | nil => rfl
  | cons v sc' => exact h.elim
/-- what holds between a picture and the machine -/
def ev_R (s : State) (A : Nat → Prop) (D : va_G) (nL : Nat) (g : ev_G) (S : ev_S) (ws : va_W) (H : Heap) (locs : List Loc) (ls : Array Slot) (sc : List Value) : Prop :=
  va_P D vwCl ws H ∧ va_D A ws ∧ va_S A s.heap H locs ∧ ev_w s g S.2.2.2.1 ws ∧ ev_b S.2.2.2.2.1 g.2.2 ∧ ev_l g S.2.1 nL ls ∧ ev_s g S.2.2.1 sc
/-- the goal from a picture: the machine comes to an end with Q, wherever it stands as the picture says -/
def ev_Go (p : Program) (l : Launch) (e : Env) (R : Room) (s : State) (m : MethodId) (args : Array Value) (below : List Frame) (meth : Method) (c : Code) (Q : State → Prop) (nL : Nat) (D : va_G) (A : Nat → Prop) (g0 : ev_G) (S : ev_S) : Prop :=
  ∀ (g : ev_G) (ws : va_W) (H : Heap) (locs : List Loc) (ls : Array Slot) (sc : List Value), ev_le g0 g → ev_R s A D nL g S ws H locs ls sc → W p l e R s m args below meth c H locs S.2.2.2.2.2.1 S.2.2.2.2.2.2 Q (F0 m S.1 ls sc)
/-- the text constants: class, pool number, text, bytes; the k-th stands at X (1 + 2 k), its bytes at X (2 + 2 k) -/
def ev_strs : List (String × Nat × String × List Int32) := [("BarberMinutes$Reader", 217, "town", [116, 111, 119, 110]),
  ("BarberMinutes$Reader", 218, "man", [109, 97, 110]),
  ("BarberMinutes$Reader", 220, "motion", [109, 111, 116, 105, 111, 110]),
  ("BarberMinutes$Reader", 222, "against", [97, 103, 97, 105, 110, 115, 116]),
  ("BarberMinutes$Reader", 223, "amends", [97, 109, 101, 110, 100, 115]),
  ("BarberMinutes$Reader", 224, "quarrel", [113, 117, 97, 114, 114, 101, 108]),
  ("BarberMinutes$Reader", 226, "chair", [99, 104, 97, 105, 114]),
  ("BarberMinutes$Reader", 228, "heap", [104, 101, 97, 112]),
  ("BarberMinutes$Reader", 131, "grows", [103, 114, 111, 119, 115]),
  ("BarberMinutes$Reader", 142, "bald", [98, 97, 108, 100]),
  ("BarberMinutes$Reader", 147, "shave", [115, 104, 97, 118, 101]),
  ("BarberMinutes$Reader", 207, "fair", [102, 97, 105, 114]),
  ("BarberMinutes$Reader", 209, "dark", [100, 97, 114, 107]),
  ("BarberMinutes$Reader", 211, "grey", [103, 114, 101, 121]),
  ("BarberMinutes$Reader", 159, "long", [108, 111, 110, 103]),
  ("BarberMinutes$Reader", 161, "votes", [118, 111, 116, 101, 115]),
  ("BarberMinutes$Reader", 167, "cuts", [99, 117, 116, 115]),
  ("BarberMinutes$Reader", 169, "needs", [110, 101, 101, 100, 115]),
  ("BarberMinutes$Reader", 171, "worth", [119, 111, 114, 116, 104]),
  ("BarberMinutes$Reader", 182, "at", [97, 116]),
  ("BarberMinutesModel", 116, "town", [116, 111, 119, 110]),
  ("BarberMinutesModel", 216, "grows", [103, 114, 111, 119, 115]),
  ("BarberMinutesModel", 222, "bald", [98, 97, 108, 100]),
  ("BarberMinutesModel", 224, "shave", [115, 104, 97, 118, 101]),
  ("BarberMinutesModel", 118, "man", [109, 97, 110]),
  ("BarberMinutesModel", 120, "motion", [109, 111, 116, 105, 111, 110]),
  ("BarberMinutesModel", 122, "against", [97, 103, 97, 105, 110, 115, 116]),
  ("BarberMinutesModel", 124, "amends", [97, 109, 101, 110, 100, 115]),
  ("BarberMinutesModel", 126, "quarrel", [113, 117, 97, 114, 114, 101, 108]),
  ("BarberMinutesModel", 128, "chair", [99, 104, 97, 105, 114]),
  ("BarberMinutesModel", 130, "heap", [104, 101, 97, 112]),
  ("BarberMinutesModel", 153, "fair", [102, 97, 105, 114]),
  ("BarberMinutesModel", 155, "dark", [100, 97, 114, 107]),
  ("BarberMinutesModel", 157, "grey", [103, 114, 101, 121]),
  ("BarberMinutesModel", 233, "long", [108, 111, 110, 103]),
  ("BarberMinutesModel", 235, "votes", [118, 111, 116, 101, 115]),
  ("BarberMinutesModel", 237, "cuts", [99, 117, 116, 115]),
  ("BarberMinutesModel", 239, "needs", [110, 101, 101, 100, 115]),
  ("BarberMinutesModel", 241, "worth", [119, 111, 114, 116, 104]),
  ("BarberMinutesModel", 253, "at", [97, 116])]
/-- words that are not good: links to private members of a nest mate, arrays over a class -/
def lw_nest : List Cond := lw_tbl.filter (fun w => match w with | .methodLinkNest _ _ _ _ => true | .fieldLinkNest _ _ _ _ _ _ => true | _ => false)
/-- what was there before: text constants and a static -/
def ev_E (X : Nat → Nat) (A : Nat → Prop) (U : State) (H : Heap) : Prop :=
  (∀ (k : Nat) (r : String × Nat × String × List Int32), ev_strs[k]? = some r → va_O "java/lang/String" (X (1 + 2 * k)) A U H ∧ va_OF "java/lang/String" "coder" "B" (.int 0) (X (1 + 2 * k)) A U H ∧ va_OF "java/lang/String" "value" "[B" (.ref (X (2 + 2 * k))) (X (1 + 2 * k)) A U H ∧ va_T .byte (X (2 + 2 * k)) r.2.2.2.length (fun j => .int (r.2.2.2.getD j 0)) A U H)
  ∧ va_Z "java/lang/String" "COMPACT_STRINGS" "Z" (.int 1) A U H ∧ va_Zq "jdk/internal/util/Preconditions" "SIOOBE_FORMATTER" "Ljava/util/function/BiFunction;" A U H
def ev_N (X : Nat → Nat) (A : Nat → Prop) (U : State) (H : Heap) : Prop := ((∀ w ∈ lw_nest, va_Nw w U) ∧ va_AO "BarberMinutes$Minutes" U) ∧ (∀ (k : Nat) (r : String × Nat × String × List Int32), ev_strs[k]? = some r → vk_R r.1 r.2.1 r.2.2.1 (X (1 + 2 * k)) U) ∧ ev_E X A U H
theorem ev_E_moved {X : Nat → Nat} {A : Nat → Prop} {u U : State} {H : Heap} (hvm : u.vm.Alike U.vm) (h : ev_E X A u H) : ev_E X A U H := ⟨fun k r hr => ⟨va_O.moved hvm (h.1 k r hr).1, va_OF.moved hvm (h.1 k r hr).2.1, va_OF.moved hvm (h.1 k r hr).2.2.1, va_T.moved hvm (h.1 k r hr).2.2.2⟩, va_Z.moved hvm h.2.1, va_Zq.moved hvm h.2.2⟩
theorem ev_E_kept {X : Nat → Nat} {A : Nat → Prop} {U : State} {H H1 : Heap} (h : ev_E X A U H) (hq : ∀ a : Nat, a < H.size → ¬ A a → H1[a]? = H[a]?) : ev_E X A U H1 := ⟨fun k r hr => ⟨va_O.kept (h.1 k r hr).1 hq, va_OF.kept (h.1 k r hr).2.1 hq, va_OF.kept (h.1 k r hr).2.2.1 hq, va_T.kept (h.1 k r hr).2.2.2 hq⟩, va_Z.kept h.2.1 hq, va_Zq.kept h.2.2 hq⟩
theorem ev_E_narrow {X : Nat → Nat} {A B : Nat → Prop} {U : State} {H : Heap} (h : ev_E X A U H) (hAB : ∀ q, B q → A q) : ev_E X B U H := ⟨fun k r hr => ⟨va_O.narrow (h.1 k r hr).1 hAB, va_OF.narrow (h.1 k r hr).2.1 hAB, va_OF.narrow (h.1 k r hr).2.2.1 hAB, va_T.narrow (h.1 k r hr).2.2.2 hAB⟩, va_Z.narrow h.2.1 hAB, va_Zq.narrow h.2.2 hAB⟩
theorem ev_N_on {w : Cond} (h : w ∈ lw_nest) : w.onTables = true := by
  have h := (List.mem_filter.mp h).2
  split at h
  · rfl
  · rfl
  · cases h
theorem ev_N_same {X : Nat → Nat} {A : Nat → Prop} {u U : State} {H : Heap} (h : u.vm = U.vm) (hN : ev_N X A u H) : ev_N X A U H := ⟨⟨fun w hw => (hN.1.1 w hw).same (ev_N_on hw) h, hN.1.2.moved (by rw [h]; exact Vm.Alike.refl _)⟩, fun k r hr => (hN.2.1 k r hr).same h.symm, ev_E_moved (by rw [h]; exact Vm.Alike.refl _) hN.2.2⟩
theorem ev_N_call {X : Nat → Nat} {A B : Nat → Prop} {s U : State} {H : Heap} {locs : List Loc} (hW : s.WarmedH U.vm) (hU : U.heap = H) (hS : va_S A s.heap H locs) (hAB : ∀ q, B q → A q) (hN : ev_N X A s s.heap) : ev_N X B U U.heap := by
  refine ⟨⟨fun w hw => ?_, hN.1.2.moved hW.alike⟩, fun k r hr => (hN.2.1 k r hr).warm hW, ?_⟩
  · have h := (List.mem_filter.mp hw).2
    have hz := hN.1.1 w hw
    split at h
    · exact va_Nw.warmM hW hz
    · exact va_Nw.warmF hW hz
    · cases h
  · rw [hU]
    exact ev_E_moved hW.alike (ev_E_narrow (ev_E_kept hN.2.2 hS.2.1) hAB)
/-- the fixed facts of a frame -/
def ev_X (p : Program) (R : Room) (s : State) (m : MethodId) (args : Array Value) (meth : Method) (c : Code) (cc : ByteArray) (nL : Nat) (own : String) (ini : Bool) (D : va_G) (A : Nat → Prop) (capC capS : Nat) (g0 : ev_G) (Ls : Nat) : Prop :=
  p.tables.exec = Jvm.exec ∧ c.code = cc ∧ c.maxLocals = nL ∧ s.vm.findClass own = some m.cls ∧ (∀ w ∈ lw_good, w.before args s = true) ∧ va_K D vwCl [] s ∧ (∀ q : Nat, s.heap.size ≤ q → A q) ∧ ev_N g0.2.1 A s s.heap ∧ (ini = true → meth.name = "<init>") ∧ R.cells = capC ∧ R.slots = capS ∧ 1 ≤ R.frames ∧ 40 ≤ R.locals ∧ ∀ L, Ls = L + 1 → ∃ xs : Nat → Int32, va_X (g0.2.1 0) L xs s s.heap ∧ g0.2.1 0 < s.heap.size ∧ ¬ A (g0.2.1 0) ∧ ∀ j : Nat, j < L → g0.2.2[j]? = some (.int (xs j))
/-! places of the table, by tails of 32 -/
def lwd_0 : List Cond := lw_tbl
def lwd_1 : List Cond := List.drop 32 lwd_0
def lwd_2 : List Cond := List.drop 32 lwd_1
def lwd_3 : List Cond := List.drop 32 lwd_2
def lwd_4 : List Cond := List.drop 32 lwd_3
def lwd_5 : List Cond := List.drop 32 lwd_4
def lwd_6 : List Cond := List.drop 32 lwd_5
def lwd_7 : List Cond := List.drop 32 lwd_6
def lwd_8 : List Cond := List.drop 32 lwd_7
def lwd_9 : List Cond := List.drop 32 lwd_8
def lwd_10 : List Cond := List.drop 32 lwd_9
def lwd_11 : List Cond := List.drop 32 lwd_10
def lwd_12 : List Cond := List.drop 32 lwd_11
def lwd_13 : List Cond := List.drop 32 lwd_12
def lwd_14 : List Cond := List.drop 32 lwd_13
def lwd_15 : List Cond := List.drop 32 lwd_14
def lwd_16 : List Cond := List.drop 32 lwd_15
def lwd_17 : List Cond := List.drop 32 lwd_16
def lwd_18 : List Cond := List.drop 32 lwd_17
def lwd_19 : List Cond := List.drop 32 lwd_18
def lwd_20 : List Cond := List.drop 32 lwd_19
def lwd_21 : List Cond := List.drop 32 lwd_20
def lwd_22 : List Cond := List.drop 32 lwd_21
def lwd_23 : List Cond := List.drop 32 lwd_22
def lwd_24 : List Cond := List.drop 32 lwd_23
def lwd_25 : List Cond := List.drop 32 lwd_24
def lwd_26 : List Cond := List.drop 32 lwd_25
def lwd_27 : List Cond := List.drop 32 lwd_26
def lwd_28 : List Cond := List.drop 32 lwd_27
def lwd_29 : List Cond := List.drop 32 lwd_28
def lwd_30 : List Cond := List.drop 32 lwd_29
def lwd_31 : List Cond := List.drop 32 lwd_30
def lwd_32 : List Cond := List.drop 32 lwd_31
def lwd_33 : List Cond := List.drop 32 lwd_32
def lwd_34 : List Cond := List.drop 32 lwd_33
def lwd_35 : List Cond := List.drop 32 lwd_34
def lwd_36 : List Cond := List.drop 32 lwd_35
def lwd_37 : List Cond := List.drop 32 lwd_36
def lwd_38 : List Cond := List.drop 32 lwd_37
def lwd_39 : List Cond := List.drop 32 lwd_38
def lwd_40 : List Cond := List.drop 32 lwd_39
def lwd_41 : List Cond := List.drop 32 lwd_40
def lwd_42 : List Cond := List.drop 32 lwd_41
def lwd_43 : List Cond := List.drop 32 lwd_42
def lwd_44 : List Cond := List.drop 32 lwd_43
def lwd_45 : List Cond := List.drop 32 lwd_44
def lwd_46 : List Cond := List.drop 32 lwd_45
def lwd_47 : List Cond := List.drop 32 lwd_46
def lwd_48 : List Cond := List.drop 32 lwd_47
def lwd_49 : List Cond := List.drop 32 lwd_48
def lwd_50 : List Cond := List.drop 32 lwd_49
def lwd_51 : List Cond := List.drop 32 lwd_50
def lwd_52 : List Cond := List.drop 32 lwd_51
def lwd_53 : List Cond := List.drop 32 lwd_52
def lwd_54 : List Cond := List.drop 32 lwd_53
def lwd_55 : List Cond := List.drop 32 lwd_54
def lwd_56 : List Cond := List.drop 32 lwd_55
def lwd_57 : List Cond := List.drop 32 lwd_56
def lwd_58 : List Cond := List.drop 32 lwd_57
def lwd_59 : List Cond := List.drop 32 lwd_58
def lwd_60 : List Cond := List.drop 32 lwd_59
def lwd_61 : List Cond := List.drop 32 lwd_60
theorem lwd_0_eq : lwd_0 = List.drop 0 lw_tbl := rfl
theorem lwd_1_eq : lwd_1 = List.drop 32 lw_tbl := (congrArg (List.drop 32) lwd_0_eq).trans List.drop_drop
theorem lwd_2_eq : lwd_2 = List.drop 64 lw_tbl := (congrArg (List.drop 32) lwd_1_eq).trans List.drop_drop
theorem lwd_3_eq : lwd_3 = List.drop 96 lw_tbl := (congrArg (List.drop 32) lwd_2_eq).trans List.drop_drop
theorem lwd_4_eq : lwd_4 = List.drop 128 lw_tbl := (congrArg (List.drop 32) lwd_3_eq).trans List.drop_drop
theorem lwd_5_eq : lwd_5 = List.drop 160 lw_tbl := (congrArg (List.drop 32) lwd_4_eq).trans List.drop_drop
theorem lwd_6_eq : lwd_6 = List.drop 192 lw_tbl := (congrArg (List.drop 32) lwd_5_eq).trans List.drop_drop
theorem lwd_7_eq : lwd_7 = List.drop 224 lw_tbl := (congrArg (List.drop 32) lwd_6_eq).trans List.drop_drop
theorem lwd_8_eq : lwd_8 = List.drop 256 lw_tbl := (congrArg (List.drop 32) lwd_7_eq).trans List.drop_drop
theorem lwd_9_eq : lwd_9 = List.drop 288 lw_tbl := (congrArg (List.drop 32) lwd_8_eq).trans List.drop_drop
theorem lwd_10_eq : lwd_10 = List.drop 320 lw_tbl := (congrArg (List.drop 32) lwd_9_eq).trans List.drop_drop
theorem lwd_11_eq : lwd_11 = List.drop 352 lw_tbl := (congrArg (List.drop 32) lwd_10_eq).trans List.drop_drop
theorem lwd_12_eq : lwd_12 = List.drop 384 lw_tbl := (congrArg (List.drop 32) lwd_11_eq).trans List.drop_drop
theorem lwd_13_eq : lwd_13 = List.drop 416 lw_tbl := (congrArg (List.drop 32) lwd_12_eq).trans List.drop_drop
theorem lwd_14_eq : lwd_14 = List.drop 448 lw_tbl := (congrArg (List.drop 32) lwd_13_eq).trans List.drop_drop
theorem lwd_15_eq : lwd_15 = List.drop 480 lw_tbl := (congrArg (List.drop 32) lwd_14_eq).trans List.drop_drop
theorem lwd_16_eq : lwd_16 = List.drop 512 lw_tbl := (congrArg (List.drop 32) lwd_15_eq).trans List.drop_drop
theorem lwd_17_eq : lwd_17 = List.drop 544 lw_tbl := (congrArg (List.drop 32) lwd_16_eq).trans List.drop_drop
theorem lwd_18_eq : lwd_18 = List.drop 576 lw_tbl := (congrArg (List.drop 32) lwd_17_eq).trans List.drop_drop
theorem lwd_19_eq : lwd_19 = List.drop 608 lw_tbl := (congrArg (List.drop 32) lwd_18_eq).trans List.drop_drop
theorem lwd_20_eq : lwd_20 = List.drop 640 lw_tbl := (congrArg (List.drop 32) lwd_19_eq).trans List.drop_drop
theorem lwd_21_eq : lwd_21 = List.drop 672 lw_tbl := (congrArg (List.drop 32) lwd_20_eq).trans List.drop_drop
theorem lwd_22_eq : lwd_22 = List.drop 704 lw_tbl := (congrArg (List.drop 32) lwd_21_eq).trans List.drop_drop
theorem lwd_23_eq : lwd_23 = List.drop 736 lw_tbl := (congrArg (List.drop 32) lwd_22_eq).trans List.drop_drop
theorem lwd_24_eq : lwd_24 = List.drop 768 lw_tbl := (congrArg (List.drop 32) lwd_23_eq).trans List.drop_drop
theorem lwd_25_eq : lwd_25 = List.drop 800 lw_tbl := (congrArg (List.drop 32) lwd_24_eq).trans List.drop_drop
theorem lwd_26_eq : lwd_26 = List.drop 832 lw_tbl := (congrArg (List.drop 32) lwd_25_eq).trans List.drop_drop
theorem lwd_27_eq : lwd_27 = List.drop 864 lw_tbl := (congrArg (List.drop 32) lwd_26_eq).trans List.drop_drop
theorem lwd_28_eq : lwd_28 = List.drop 896 lw_tbl := (congrArg (List.drop 32) lwd_27_eq).trans List.drop_drop
theorem lwd_29_eq : lwd_29 = List.drop 928 lw_tbl := (congrArg (List.drop 32) lwd_28_eq).trans List.drop_drop
theorem lwd_30_eq : lwd_30 = List.drop 960 lw_tbl := (congrArg (List.drop 32) lwd_29_eq).trans List.drop_drop
theorem lwd_31_eq : lwd_31 = List.drop 992 lw_tbl := (congrArg (List.drop 32) lwd_30_eq).trans List.drop_drop
theorem lwd_32_eq : lwd_32 = List.drop 1024 lw_tbl := (congrArg (List.drop 32) lwd_31_eq).trans List.drop_drop
theorem lwd_33_eq : lwd_33 = List.drop 1056 lw_tbl := (congrArg (List.drop 32) lwd_32_eq).trans List.drop_drop
theorem lwd_34_eq : lwd_34 = List.drop 1088 lw_tbl := (congrArg (List.drop 32) lwd_33_eq).trans List.drop_drop
theorem lwd_35_eq : lwd_35 = List.drop 1120 lw_tbl := (congrArg (List.drop 32) lwd_34_eq).trans List.drop_drop
theorem lwd_36_eq : lwd_36 = List.drop 1152 lw_tbl := (congrArg (List.drop 32) lwd_35_eq).trans List.drop_drop
theorem lwd_37_eq : lwd_37 = List.drop 1184 lw_tbl := (congrArg (List.drop 32) lwd_36_eq).trans List.drop_drop
theorem lwd_38_eq : lwd_38 = List.drop 1216 lw_tbl := (congrArg (List.drop 32) lwd_37_eq).trans List.drop_drop
theorem lwd_39_eq : lwd_39 = List.drop 1248 lw_tbl := (congrArg (List.drop 32) lwd_38_eq).trans List.drop_drop
theorem lwd_40_eq : lwd_40 = List.drop 1280 lw_tbl := (congrArg (List.drop 32) lwd_39_eq).trans List.drop_drop
theorem lwd_41_eq : lwd_41 = List.drop 1312 lw_tbl := (congrArg (List.drop 32) lwd_40_eq).trans List.drop_drop
theorem lwd_42_eq : lwd_42 = List.drop 1344 lw_tbl := (congrArg (List.drop 32) lwd_41_eq).trans List.drop_drop
theorem lwd_43_eq : lwd_43 = List.drop 1376 lw_tbl := (congrArg (List.drop 32) lwd_42_eq).trans List.drop_drop
theorem lwd_44_eq : lwd_44 = List.drop 1408 lw_tbl := (congrArg (List.drop 32) lwd_43_eq).trans List.drop_drop
theorem lwd_45_eq : lwd_45 = List.drop 1440 lw_tbl := (congrArg (List.drop 32) lwd_44_eq).trans List.drop_drop
theorem lwd_46_eq : lwd_46 = List.drop 1472 lw_tbl := (congrArg (List.drop 32) lwd_45_eq).trans List.drop_drop
theorem lwd_47_eq : lwd_47 = List.drop 1504 lw_tbl := (congrArg (List.drop 32) lwd_46_eq).trans List.drop_drop
theorem lwd_48_eq : lwd_48 = List.drop 1536 lw_tbl := (congrArg (List.drop 32) lwd_47_eq).trans List.drop_drop
theorem lwd_49_eq : lwd_49 = List.drop 1568 lw_tbl := (congrArg (List.drop 32) lwd_48_eq).trans List.drop_drop
theorem lwd_50_eq : lwd_50 = List.drop 1600 lw_tbl := (congrArg (List.drop 32) lwd_49_eq).trans List.drop_drop
theorem lwd_51_eq : lwd_51 = List.drop 1632 lw_tbl := (congrArg (List.drop 32) lwd_50_eq).trans List.drop_drop
theorem lwd_52_eq : lwd_52 = List.drop 1664 lw_tbl := (congrArg (List.drop 32) lwd_51_eq).trans List.drop_drop
theorem lwd_53_eq : lwd_53 = List.drop 1696 lw_tbl := (congrArg (List.drop 32) lwd_52_eq).trans List.drop_drop
theorem lwd_54_eq : lwd_54 = List.drop 1728 lw_tbl := (congrArg (List.drop 32) lwd_53_eq).trans List.drop_drop
theorem lwd_55_eq : lwd_55 = List.drop 1760 lw_tbl := (congrArg (List.drop 32) lwd_54_eq).trans List.drop_drop
theorem lwd_56_eq : lwd_56 = List.drop 1792 lw_tbl := (congrArg (List.drop 32) lwd_55_eq).trans List.drop_drop
theorem lwd_57_eq : lwd_57 = List.drop 1824 lw_tbl := (congrArg (List.drop 32) lwd_56_eq).trans List.drop_drop
theorem lwd_58_eq : lwd_58 = List.drop 1856 lw_tbl := (congrArg (List.drop 32) lwd_57_eq).trans List.drop_drop
theorem lwd_59_eq : lwd_59 = List.drop 1888 lw_tbl := (congrArg (List.drop 32) lwd_58_eq).trans List.drop_drop
theorem lwd_60_eq : lwd_60 = List.drop 1920 lw_tbl := (congrArg (List.drop 32) lwd_59_eq).trans List.drop_drop
theorem lwd_61_eq : lwd_61 = List.drop 1952 lw_tbl := (congrArg (List.drop 32) lwd_60_eq).trans List.drop_drop
def lwd_tab : List (Nat × List Cond) := [(0, lwd_0), (1, lwd_1), (2, lwd_2), (3, lwd_3), (4, lwd_4), (5, lwd_5), (6, lwd_6), (7, lwd_7), (8, lwd_8), (9, lwd_9), (10, lwd_10), (11, lwd_11), (12, lwd_12), (13, lwd_13), (14, lwd_14), (15, lwd_15), (16, lwd_16), (17, lwd_17), (18, lwd_18), (19, lwd_19), (20, lwd_20), (21, lwd_21), (22, lwd_22), (23, lwd_23), (24, lwd_24), (25, lwd_25), (26, lwd_26), (27, lwd_27), (28, lwd_28), (29, lwd_29), (30, lwd_30), (31, lwd_31), (32, lwd_32), (33, lwd_33), (34, lwd_34), (35, lwd_35), (36, lwd_36), (37, lwd_37), (38, lwd_38), (39, lwd_39), (40, lwd_40), (41, lwd_41), (42, lwd_42), (43, lwd_43), (44, lwd_44), (45, lwd_45), (46, lwd_46), (47, lwd_47), (48, lwd_48), (49, lwd_49), (50, lwd_50), (51, lwd_51), (52, lwd_52), (53, lwd_53), (54, lwd_54), (55, lwd_55), (56, lwd_56), (57, lwd_57), (58, lwd_58), (59, lwd_59), (60, lwd_60), (61, lwd_61)]
theorem lwd_tab_ok : ∀ q ∈ lwd_tab, q.2 = List.drop (32 * q.1) lw_tbl := List.forall_mem_cons.mpr ⟨lwd_0_eq, List.forall_mem_cons.mpr ⟨lwd_1_eq, List.forall_mem_cons.mpr ⟨lwd_2_eq, List.forall_mem_cons.mpr ⟨lwd_3_eq, List.forall_mem_cons.mpr ⟨lwd_4_eq, List.forall_mem_cons.mpr ⟨lwd_5_eq, List.forall_mem_cons.mpr ⟨lwd_6_eq, List.forall_mem_cons.mpr ⟨lwd_7_eq, List.forall_mem_cons.mpr ⟨lwd_8_eq, List.forall_mem_cons.mpr ⟨lwd_9_eq, List.forall_mem_cons.mpr ⟨lwd_10_eq, List.forall_mem_cons.mpr ⟨lwd_11_eq, List.forall_mem_cons.mpr ⟨lwd_12_eq, List.forall_mem_cons.mpr ⟨lwd_13_eq, List.forall_mem_cons.mpr ⟨lwd_14_eq, List.forall_mem_cons.mpr ⟨lwd_15_eq, List.forall_mem_cons.mpr ⟨lwd_16_eq, List.forall_mem_cons.mpr ⟨lwd_17_eq, List.forall_mem_cons.mpr ⟨lwd_18_eq, List.forall_mem_cons.mpr ⟨lwd_19_eq, List.forall_mem_cons.mpr ⟨lwd_20_eq, List.forall_mem_cons.mpr ⟨lwd_21_eq, List.forall_mem_cons.mpr ⟨lwd_22_eq, List.forall_mem_cons.mpr ⟨lwd_23_eq, List.forall_mem_cons.mpr ⟨lwd_24_eq, List.forall_mem_cons.mpr ⟨lwd_25_eq, List.forall_mem_cons.mpr ⟨lwd_26_eq, List.forall_mem_cons.mpr ⟨lwd_27_eq, List.forall_mem_cons.mpr ⟨lwd_28_eq, List.forall_mem_cons.mpr ⟨lwd_29_eq, List.forall_mem_cons.mpr ⟨lwd_30_eq, List.forall_mem_cons.mpr ⟨lwd_31_eq, List.forall_mem_cons.mpr ⟨lwd_32_eq, List.forall_mem_cons.mpr ⟨lwd_33_eq, List.forall_mem_cons.mpr ⟨lwd_34_eq, List.forall_mem_cons.mpr ⟨lwd_35_eq, List.forall_mem_cons.mpr ⟨lwd_36_eq, List.forall_mem_cons.mpr ⟨lwd_37_eq, List.forall_mem_cons.mpr ⟨lwd_38_eq, List.forall_mem_cons.mpr ⟨lwd_39_eq, List.forall_mem_cons.mpr ⟨lwd_40_eq, List.forall_mem_cons.mpr ⟨lwd_41_eq, List.forall_mem_cons.mpr ⟨lwd_42_eq, List.forall_mem_cons.mpr ⟨lwd_43_eq, List.forall_mem_cons.mpr ⟨lwd_44_eq, List.forall_mem_cons.mpr ⟨lwd_45_eq, List.forall_mem_cons.mpr ⟨lwd_46_eq, List.forall_mem_cons.mpr ⟨lwd_47_eq, List.forall_mem_cons.mpr ⟨lwd_48_eq, List.forall_mem_cons.mpr ⟨lwd_49_eq, List.forall_mem_cons.mpr ⟨lwd_50_eq, List.forall_mem_cons.mpr ⟨lwd_51_eq, List.forall_mem_cons.mpr ⟨lwd_52_eq, List.forall_mem_cons.mpr ⟨lwd_53_eq, List.forall_mem_cons.mpr ⟨lwd_54_eq, List.forall_mem_cons.mpr ⟨lwd_55_eq, List.forall_mem_cons.mpr ⟨lwd_56_eq, List.forall_mem_cons.mpr ⟨lwd_57_eq, List.forall_mem_cons.mpr ⟨lwd_58_eq, List.forall_mem_cons.mpr ⟨lwd_59_eq, List.forall_mem_cons.mpr ⟨lwd_60_eq, List.forall_mem_cons.mpr ⟨lwd_61_eq, fun _ h => nomatch h⟩⟩⟩⟩⟩⟩⟩⟩⟩⟩⟩⟩⟩⟩⟩⟩⟩⟩⟩⟩⟩⟩⟩⟩⟩⟩⟩⟩⟩⟩⟩⟩⟩⟩⟩⟩⟩⟩⟩⟩⟩⟩⟩⟩⟩⟩⟩⟩⟩⟩⟩⟩⟩⟩⟩⟩⟩⟩⟩⟩⟩⟩
def lwd_get : List (Nat × List Cond) → Nat → Option (List Cond)
  | [], _ => none
  | q :: l, i => cond (Nat.beq q.1 i) (some q.2) (lwd_get l i)
theorem lwd_get_mem : ∀ {l : List (Nat × List Cond)} {i : Nat} {a : List Cond}, lwd_get l i = some a → (i, a) ∈ l
  | [], i, a, h => by cases h
  | q :: l, i, a, h => by
    have h : cond (Nat.beq q.1 i) (some q.2) (lwd_get l i) = some a := h
    cases hq : Nat.beq q.1 i with
    | true =>
      rw [hq] at h
      have h : some q.2 = some a := h
      cases h
      rw [← Nat.eq_of_beq_eq_true hq]
      exact List.mem_cons_self
    | false =>
      rw [hq] at h
      exact List.mem_cons_of_mem _ (lwd_get_mem (show lwd_get l i = some a from h))
def lw_at (j : Nat) : Option Cond := match lwd_get lwd_tab (j / 32) with
  | some l => l[j % 32]?
  | none => none
theorem lw_at_ok {j : Nat} {w : Cond} (h : lw_at j = some w) : lw_tbl[j]? = some w := by
  unfold lw_at at h
  split at h
  · rename_i l hl
    have e := lwd_tab_ok _ (lwd_get_mem hl)
    dsimp only at e
    rw [e, List.getElem?_drop, Nat.div_add_mod] at h
    exact h
  · cases h
/-! operands, frame data, operations -/
abbrev ev_P : Type := Nat × Nat × Bool × String × Nat × Nat
abbrev ev_T : Type := Int × Int × Int × List Int
abbrev ev_O : Type := (ev_P → ev_T → Option (Instr × Nat × List Cond)) × (ev_P → ev_T → ev_S → Option (List ev_S))
def ev_Snd (o : ev_O) : Prop := ∀ (p : Program) (l : Launch) (e : Env) (R : Room) (s : State) (m : MethodId) (args : Array Value) (below : List Frame) (meth : Method) (c : Code) (cc : ByteArray) (Q : State → Prop) (D : va_G) (A : Nat → Prop) (g0 : ev_G) (P : ev_P) (t : ev_T) (S : ev_S) (i : Instr) (n : Nat) (cs : List Cond) (Ss : List ev_S),
  ev_X p R s m args meth c cc P.2.2.2.2.1 P.2.2.2.1 P.2.2.1 D A P.1 P.2.1 g0 P.2.2.2.2.2 → o.1 P t = some (i, n, cs) → decode cc S.1 = .ok (i, n) → (∀ w ∈ cs, w ∈ lw_good) → o.2 P t S = some Ss → (∀ S' ∈ Ss, ev_Go p l e R s m args below meth c Q P.2.2.2.2.1 D A g0 S') → ev_Go p l e R s m args below meth c Q P.2.2.2.2.1 D A g0 S
theorem ev_lo (x : Int32) : (-2147483648 : Int) ≤ x.toInt := by have := Int32.le_toInt x; omega
theorem ev_hi (x : Int32) : x.toInt ≤ (2147483647 : Int) := by have := Int32.toInt_lt x; omega
def ev_full : Int × Int := (-2147483648, 2147483647)
theorem ev_full_ok (x : Int32) : ev_full.1 ≤ x.toInt ∧ x.toInt ≤ ev_full.2 := ⟨ev_lo x, ev_hi x⟩
theorem ev_v0 (g : ev_G) (x : Int32) : ev_v g (0, x.toInt) = some (.int x) := by
  show some (Value.int (Int32.ofInt x.toInt)) = _
  rw [Int32.ofInt_toInt]
theorem ev_v4 (g : ev_G) (x : Int64) : ev_v g (4, x.toInt) = some (.long x) := by
  show some (Value.long (Int64.ofInt x.toInt)) = _
  rw [Int64.ofInt_toInt]
theorem ev_v3 {g : ev_G} {k : Nat} {x : Int32} (h : g.2.2[k]? = some (.int x)) : ev_v g (3, (k : Int)) = some (.int x) := by
  simp [ev_v, h]
theorem ev_v6 {g : ev_G} {k : Nat} {x : Int64} (h : g.2.2[k]? = some (.long x)) : ev_v g (6, (k : Int)) = some (.long x) := by
  simp [ev_v, h]
theorem ev_w_le {s : State} {g g' : ev_G} {w : List ev_C} {ws : va_W} (h : ev_le g g') (h1 : g'.1 = g.1) (hw : ev_w s g w ws) : ev_w s g' w ws := ⟨h1.trans hw.1, hw.2.1, fun k c q a b => ev_c_le h (hw.2.2 k c q a b)⟩
/-- a name for a new value -/
theorem ev_fresh {s : State} {A : Nat → Prop} {D : va_G} {nL : Nat} {g : ev_G} {pc : Nat} {L : List (Nat × ev_A)} {st : List ev_A} {w : List ev_C} {K : ev_K} {ce sl : Nat} {ws : va_W} {H : Heap} {locs : List Loc} {ls : Array Slot} {sc : List Value} (hR : ev_R s A D nL g (pc, L, st, w, K, ce, sl) ws H locs ls sc) (v : Value) (r : Int × Int) (hr : ∀ x, v = .int x → r.1 ≤ x.toInt ∧ x.toInt ≤ r.2) :
    ∃ g' : ev_G, ev_le g g' ∧ ev_R s A D nL g' (pc, L, st, w, K ++ [r], ce, sl) ws H locs ls sc ∧ g'.2.2[K.length]? = some v := by
  obtain ⟨hP, hD, hS, hW, hB, hL, hs⟩ := hR
  have hle : ev_le g (g.1, g.2.1, g.2.2 ++ [v]) := ⟨⟨[], by simp⟩, rfl, ⟨[v], rfl⟩⟩
  have hlen : K.length = g.2.2.length := hB.1
  refine ⟨(g.1, g.2.1, g.2.2 ++ [v]), hle, ⟨hP, hD, hS, ev_w_le hle rfl hW, ⟨by simp [hlen], fun k q x h1 h2 => ?_⟩, ev_l_le hle hL, ev_s_le hle hs⟩, by simp [hlen]⟩
  dsimp only at h1 h2
  by_cases hk : k < K.length
  · rw [List.getElem?_append_left hk] at h1
    rw [List.getElem?_append_left (by omega)] at h2
    exact hB.2 k q x h1 h2
  · rw [List.getElem?_append_right (by omega)] at h1
    rw [List.getElem?_append_right (by omega)] at h2
    have hz : k - K.length < 1 := (List.getElem?_eq_some_iff.mp h1).1
    have hz2 : k - g.2.2.length = 0 := by omega
    have hz3 : k - K.length = 0 := by omega
    rw [hz3] at h1
    rw [hz2] at h2
    cases h1
    exact hr x (Option.some.inj h2)
def ev_adv (S : ev_S) (n : Nat) (st : List ev_A) : ev_S := (S.1 + n, S.2.1, st, S.2.2.2)
def ev_advK (S : ev_S) (n : Nat) (st : List ev_A) (r : Int × Int) : ev_S := (S.1 + n, S.2.1, st, S.2.2.2.1, S.2.2.2.2.1 ++ [r], S.2.2.2.2.2)

def ev_iconst : ev_O := (fun _ t => some (.iconst t.1, 1, []), fun _ t S => some [ev_adv S 1 ((0, (Int32.ofInt t.1).toInt) :: S.2.2.1)])
theorem ev_iconst_ok : ev_Snd ev_iconst := by
  intro p l e R s m args below meth c cc Q D A g0 P t S i n cs Ss X h1 hd hw h2 hk g ws H locs ls sc hle hR
  obtain ⟨hx, hb, hml, hown, hts, hK, hA, hN, hini, hcC, hcS, hf, hlc, hscr⟩ := X
  obtain ⟨pc, L, st, w, K, ce, sl⟩ := S
  have h1 : some ((.iconst t.1 : Instr), (1 : Nat), ([] : List Cond)) = some (i, n, cs) := h1
  cases h1
  have h2 : some [ev_adv (pc, L, st, w, K, ce, sl) 1 ((0, (Int32.ofInt t.1).toInt) :: st)] = some Ss := h2
  cases h2
  obtain ⟨hP, hD, hS, hW, hB, hL, hs⟩ := hR
  exact lv_iconst (v := Int32.ofInt t.1) hx hb hd rfl (hk _ (List.mem_singleton.mpr rfl) g ws H locs ls _ hle ⟨hP, hD, hS, hW, hB, hL, ev_v0 g _, hs⟩)

def ev_bipush : ev_O := (fun _ t => some (.bipush t.1, 2, []), fun _ t S => some [ev_adv S 2 ((0, ((Int8.ofInt t.1).toInt32).toInt) :: S.2.2.1)])
theorem ev_bipush_ok : ev_Snd ev_bipush := by
  intro p l e R s m args below meth c cc Q D A g0 P t S i n cs Ss X h1 hd hw h2 hk g ws H locs ls sc hle hR
  obtain ⟨hx, hb, hml, hown, hts, hK, hA, hN, hini, hcC, hcS, hf, hlc, hscr⟩ := X
  obtain ⟨pc, L, st, w, K, ce, sl⟩ := S
  have h1 : some ((.bipush t.1 : Instr), (2 : Nat), ([] : List Cond)) = some (i, n, cs) := h1
  cases h1
  have h2 : some [ev_adv (pc, L, st, w, K, ce, sl) 2 ((0, ((Int8.ofInt t.1).toInt32).toInt) :: st)] = some Ss := h2
  cases h2
  obtain ⟨hP, hD, hS, hW, hB, hL, hs⟩ := hR
  exact lv_bipush (v := (Int8.ofInt t.1).toInt32) hx hb hd rfl (hk _ (List.mem_singleton.mpr rfl) g ws H locs ls _ hle ⟨hP, hD, hS, hW, hB, hL, ev_v0 g _, hs⟩)

def ev_sipush : ev_O := (fun _ t => some (.sipush t.1, 3, []), fun _ t S => some [ev_adv S 3 ((0, ((Int16.ofInt t.1).toInt32).toInt) :: S.2.2.1)])
theorem ev_sipush_ok : ev_Snd ev_sipush := by
  intro p l e R s m args below meth c cc Q D A g0 P t S i n cs Ss X h1 hd hw h2 hk g ws H locs ls sc hle hR
  obtain ⟨hx, hb, hml, hown, hts, hK, hA, hN, hini, hcC, hcS, hf, hlc, hscr⟩ := X
  obtain ⟨pc, L, st, w, K, ce, sl⟩ := S
  have h1 : some ((.sipush t.1 : Instr), (3 : Nat), ([] : List Cond)) = some (i, n, cs) := h1
  cases h1
  have h2 : some [ev_adv (pc, L, st, w, K, ce, sl) 3 ((0, ((Int16.ofInt t.1).toInt32).toInt) :: st)] = some Ss := h2
  cases h2
  obtain ⟨hP, hD, hS, hW, hB, hL, hs⟩ := hR
  exact lv_sipush (v := (Int16.ofInt t.1).toInt32) hx hb hd rfl (hk _ (List.mem_singleton.mpr rfl) g ws H locs ls _ hle ⟨hP, hD, hS, hW, hB, hL, ev_v0 g _, hs⟩)

def ev_lconst : ev_O := (fun _ t => if h : t.1.toNat < 2 then some (.lconst ⟨t.1.toNat, h⟩, 1, []) else none, fun _ t S => some [ev_adv S 1 ((4, (Int64.ofNat t.1.toNat).toInt) :: S.2.2.1)])
theorem ev_lconst_ok : ev_Snd ev_lconst := by
  intro p l e R s m args below meth c cc Q D A g0 P t S i n cs Ss X h1 hd hw h2 hk g ws H locs ls sc hle hR
  obtain ⟨hx, hb, hml, hown, hts, hK, hA, hN, hini, hcC, hcS, hf, hlc, hscr⟩ := X
  obtain ⟨pc, L, st, w, K, ce, sl⟩ := S
  have h1 : (if h : t.1.toNat < 2 then some ((.lconst ⟨t.1.toNat, h⟩ : Instr), (1 : Nat), ([] : List Cond)) else none) = some (i, n, cs) := h1
  have h2 : some [ev_adv (pc, L, st, w, K, ce, sl) 1 ((4, (Int64.ofNat t.1.toNat).toInt) :: st)] = some Ss := h2
  cases h2
  split at h1
  · cases h1
    obtain ⟨hP, hD, hS, hW, hB, hL, hs⟩ := hR
    exact lv_lconst (v := Int64.ofNat t.1.toNat) hx hb hd rfl (hk _ (List.mem_singleton.mpr rfl) g ws H locs ls _ hle ⟨hP, hD, hS, hW, hB, hL, ev_v4 g _, hs⟩)
  · cases h1

def ev_look : List (Nat × ev_A) → Nat → Option ev_A
  | [], _ => none
  | q :: L, i => if q.1 == i then some q.2 else ev_look L i
theorem ev_look_mem : ∀ {L : List (Nat × ev_A)} {i : Nat} {a : ev_A}, ev_look L i = some a → (i, a) ∈ L
  | [], i, a, h => by cases h
  | q :: L, i, a, h => by
    unfold ev_look at h
    split at h
    · rename_i hq
      cases h
      rw [← beq_iff_eq.mp hq]
      exact List.mem_cons_self
    · exact List.mem_cons_of_mem _ (ev_look_mem h)
def ev_isR (a : ev_A) : Bool := a.1 == 1 || a.1 == 5
theorem ev_vR {g : ev_G} {a : ev_A} {v : Value} (h : ev_isR a = true) (hv : ev_v g a = some v) : ∃ x : Nat, v = .ref x := by
  obtain ⟨t, n⟩ := a
  simp only [ev_isR, Bool.or_eq_true, beq_iff_eq] at h
  rcases h with h | h
  · subst h
    simp only [ev_v] at hv
    cases hq : g.1[n.toNat]? with
    | none => simp [hq] at hv
    | some q =>
      simp only [hq, Option.map_some] at hv
      exact ⟨q, (Option.some.inj hv).symm⟩
  · subst h
    exact ⟨_, (Option.some.inj hv).symm⟩
def ev_ld (ok : ev_A → Bool) (n : Nat) (i : Nat) (S : ev_S) : Option (List ev_S) := match ev_look S.2.1 i with
  | some a => if ok a = true then some [ev_adv S n (a :: S.2.2.1)] else none
  | none => none
theorem ev_ld_ok {ok : ev_A → Bool} {n i pc : Nat} {L : List (Nat × ev_A)} {st : List ev_A} {r} {Ss : List ev_S} (h : ev_ld ok n i (pc, L, st, r) = some Ss) : ∃ a, (i, a) ∈ L ∧ ok a = true ∧ Ss = [ev_adv (pc, L, st, r) n (a :: st)] := by
  unfold ev_ld at h
  split at h
  · rename_i a ha
    split at h
    · rename_i hok
      cases h
      exact ⟨a, ev_look_mem ha, hok, rfl⟩
    · cases h
  · cases h

def ev_iload : ev_O := (fun _ t => some (.iload t.1.toNat, 2, []), fun _ t S => ev_ld ev_isI 2 t.1.toNat S)
theorem ev_iload_ok : ev_Snd ev_iload := by
  intro p l e R s m args below meth c cc Q D A g0 P t S i n cs Ss X h1 hd hw h2 hk g ws H locs ls sc hle hR
  obtain ⟨hx, hb, hml, hown, hts, hK, hA, hN, hini, hcC, hcS, hf, hlc, hscr⟩ := X
  obtain ⟨pc, L, st, w, K, ce, sl⟩ := S
  have h1 : some ((.iload t.1.toNat : Instr), (2 : Nat), ([] : List Cond)) = some (i, n, cs) := h1
  cases h1
  obtain ⟨a, ha, hok, rfl⟩ := ev_ld_ok h2
  obtain ⟨hP, hD, hS, hW, hB, hL, hs⟩ := hR
  obtain ⟨v, hv, hl⟩ := hL.2.2 _ ha
  obtain ⟨x, rfl⟩ := ev_vI hok hv
  exact lv_iload hx hb hd hl (hk _ (List.mem_singleton.mpr rfl) g ws H locs ls _ hle ⟨hP, hD, hS, hW, hB, hL, hv, hs⟩)
def ev_iloadn : ev_O := (fun _ t => if h : t.1.toNat < 4 then some (.iload_n ⟨t.1.toNat, h⟩, 1, []) else none, fun _ t S => ev_ld ev_isI 1 t.1.toNat S)
theorem ev_iloadn_ok : ev_Snd ev_iloadn := by
  intro p l e R s m args below meth c cc Q D A g0 P t S i n cs Ss X h1 hd hw h2 hk g ws H locs ls sc hle hR
  obtain ⟨hx, hb, hml, hown, hts, hK, hA, hN, hini, hcC, hcS, hf, hlc, hscr⟩ := X
  obtain ⟨pc, L, st, w, K, ce, sl⟩ := S
  have h1 : (if h : t.1.toNat < 4 then some ((.iload_n ⟨t.1.toNat, h⟩ : Instr), (1 : Nat), ([] : List Cond)) else none) = some (i, n, cs) := h1
  split at h1
  · cases h1
    obtain ⟨a, ha, hok, rfl⟩ := ev_ld_ok h2
    obtain ⟨hP, hD, hS, hW, hB, hL, hs⟩ := hR
    obtain ⟨v, hv, hl⟩ := hL.2.2 _ ha
    obtain ⟨x, rfl⟩ := ev_vI hok hv
    exact lv_iload_n hx hb hd rfl hl (hk _ (List.mem_singleton.mpr rfl) g ws H locs ls _ hle ⟨hP, hD, hS, hW, hB, hL, hv, hs⟩)
  · cases h1

def ev_lload : ev_O := (fun _ t => some (.lload t.1.toNat, 2, []), fun _ t S => ev_ld ev_isL 2 t.1.toNat S)
theorem ev_lload_ok : ev_Snd ev_lload := by
  intro p l e R s m args below meth c cc Q D A g0 P t S i n cs Ss X h1 hd hw h2 hk g ws H locs ls sc hle hR
  obtain ⟨hx, hb, hml, hown, hts, hK, hA, hN, hini, hcC, hcS, hf, hlc, hscr⟩ := X
  obtain ⟨pc, L, st, w, K, ce, sl⟩ := S
  have h1 : some ((.lload t.1.toNat : Instr), (2 : Nat), ([] : List Cond)) = some (i, n, cs) := h1
  cases h1
  obtain ⟨a, ha, hok, rfl⟩ := ev_ld_ok h2
  obtain ⟨hP, hD, hS, hW, hB, hL, hs⟩ := hR
  obtain ⟨v, hv, hl⟩ := hL.2.2 _ ha
  obtain ⟨x, rfl⟩ := ev_vL hok hv
  exact lv_lload hx hb hd hl (hk _ (List.mem_singleton.mpr rfl) g ws H locs ls _ hle ⟨hP, hD, hS, hW, hB, hL, hv, hs⟩)
def ev_lloadn : ev_O := (fun _ t => if h : t.1.toNat < 4 then some (.lload_n ⟨t.1.toNat, h⟩, 1, []) else none, fun _ t S => ev_ld ev_isL 1 t.1.toNat S)
theorem ev_lloadn_ok : ev_Snd ev_lloadn := by
  intro p l e R s m args below meth c cc Q D A g0 P t S i n cs Ss X h1 hd hw h2 hk g ws H locs ls sc hle hR
  obtain ⟨hx, hb, hml, hown, hts, hK, hA, hN, hini, hcC, hcS, hf, hlc, hscr⟩ := X
  obtain ⟨pc, L, st, w, K, ce, sl⟩ := S
  have h1 : (if h : t.1.toNat < 4 then some ((.lload_n ⟨t.1.toNat, h⟩ : Instr), (1 : Nat), ([] : List Cond)) else none) = some (i, n, cs) := h1
  split at h1
  · cases h1
    obtain ⟨a, ha, hok, rfl⟩ := ev_ld_ok h2
    obtain ⟨hP, hD, hS, hW, hB, hL, hs⟩ := hR
    obtain ⟨v, hv, hl⟩ := hL.2.2 _ ha
    obtain ⟨x, rfl⟩ := ev_vL hok hv
    exact lv_lload_n hx hb hd rfl hl (hk _ (List.mem_singleton.mpr rfl) g ws H locs ls _ hle ⟨hP, hD, hS, hW, hB, hL, hv, hs⟩)
  · cases h1

def ev_aload : ev_O := (fun _ t => some (.aload t.1.toNat, 2, []), fun _ t S => ev_ld ev_isR 2 t.1.toNat S)
theorem ev_aload_ok : ev_Snd ev_aload := by
  intro p l e R s m args below meth c cc Q D A g0 P t S i n cs Ss X h1 hd hw h2 hk g ws H locs ls sc hle hR
  obtain ⟨hx, hb, hml, hown, hts, hK, hA, hN, hini, hcC, hcS, hf, hlc, hscr⟩ := X
  obtain ⟨pc, L, st, w, K, ce, sl⟩ := S
  have h1 : some ((.aload t.1.toNat : Instr), (2 : Nat), ([] : List Cond)) = some (i, n, cs) := h1
  cases h1
  obtain ⟨a, ha, hok, rfl⟩ := ev_ld_ok h2
  obtain ⟨hP, hD, hS, hW, hB, hL, hs⟩ := hR
  obtain ⟨v, hv, hl⟩ := hL.2.2 _ ha
  obtain ⟨x, rfl⟩ := ev_vR hok hv
  exact lv_aload hx hb hd hl (hk _ (List.mem_singleton.mpr rfl) g ws H locs ls _ hle ⟨hP, hD, hS, hW, hB, hL, hv, hs⟩)
def ev_aloadn : ev_O := (fun _ t => if h : t.1.toNat < 4 then some (.aload_n ⟨t.1.toNat, h⟩, 1, []) else none, fun _ t S => ev_ld ev_isR 1 t.1.toNat S)
theorem ev_aloadn_ok : ev_Snd ev_aloadn := by
  intro p l e R s m args below meth c cc Q D A g0 P t S i n cs Ss X h1 hd hw h2 hk g ws H locs ls sc hle hR
  obtain ⟨hx, hb, hml, hown, hts, hK, hA, hN, hini, hcC, hcS, hf, hlc, hscr⟩ := X
  obtain ⟨pc, L, st, w, K, ce, sl⟩ := S
  have h1 : (if h : t.1.toNat < 4 then some ((.aload_n ⟨t.1.toNat, h⟩ : Instr), (1 : Nat), ([] : List Cond)) else none) = some (i, n, cs) := h1
  split at h1
  · cases h1
    obtain ⟨a, ha, hok, rfl⟩ := ev_ld_ok h2
    obtain ⟨hP, hD, hS, hW, hB, hL, hs⟩ := hR
    obtain ⟨v, hv, hl⟩ := hL.2.2 _ ha
    obtain ⟨x, rfl⟩ := ev_vR hok hv
    exact lv_aload_n hx hb hd rfl hl (hk _ (List.mem_singleton.mpr rfl) g ws H locs ls _ hle ⟨hP, hD, hS, hW, hB, hL, hv, hs⟩)
  · cases h1

def ev_conc (g : ev_G) (L : List (Nat × ev_A)) : List (Nat × Value) := L.filterMap (fun q => (ev_v g q.2).map (fun v => (q.1, v)))
theorem ev_conc_has {g : ev_G} {L : List (Nat × ev_A)} {nL : Nat} {ls : Array Slot} (h : ev_l g L nL ls) : lv_has ls nL (ev_conc g L) := by
  refine ⟨h.1, h.2.1, fun q hq => ?_⟩
  obtain ⟨r, hr, he⟩ := List.mem_filterMap.mp hq
  obtain ⟨v, a, b⟩ := h.2.2 r hr
  rw [a] at he
  cases he
  exact b
theorem ev_conc_mem {g : ev_G} {L : List (Nat × ev_A)} {q : Nat × ev_A} {v : Value} (h : q ∈ L) (hv : ev_v g q.2 = some v) : (q.1, v) ∈ ev_conc g L := List.mem_filterMap.mpr ⟨q, h, by rw [hv]; rfl⟩
def ev_st1 (L : List (Nat × ev_A)) (i : Nat) (a : ev_A) : List (Nat × ev_A) := (i, a) :: L.filter (fun q => !(q.1 == i) && !(q.1 + 1 == i && ev_isL q.2))
def ev_st2 (L : List (Nat × ev_A)) (i : Nat) (a : ev_A) : List (Nat × ev_A) := (i, a) :: L.filter (fun q => !(q.1 == i) && (!(q.1 == i + 1) && !(q.1 + 1 == i && ev_isL q.2)))
theorem ev_isL_cat {g : ev_G} {a : ev_A} {v : Value} (hv : ev_v g a = some v) : ev_isL a = (v.category == 2) := by
  rcases ev_cat hv with ⟨h1, h2⟩ | ⟨h1, h2⟩ <;> rw [h1, h2] <;> rfl
theorem ev_st1_ok {g : ev_G} {L : List (Nat × ev_A)} {nL i : Nat} {ls ls' : Array Slot} {a : ev_A} {v : Value} (h : ev_l g L nL ls) (hv : ev_v g a = some v) (h' : lv_has ls' nL ((i, v) :: (ev_conc g L).filter (fun q => !(q.1 == i) && !(q.1 + 1 == i && q.2.category == 2)))) : ev_l g (ev_st1 L i a) nL ls' := by
  refine ⟨h'.1, h'.2.1, fun q hq => ?_⟩
  rcases List.mem_cons.mp hq with rfl | hq
  · exact ⟨v, hv, h'.2.2 _ List.mem_cons_self⟩
  · obtain ⟨q1, q2⟩ := List.mem_filter.mp hq
    obtain ⟨x, a1, a2⟩ := h.2.2 q q1
    refine ⟨x, a1, h'.2.2 (q.1, x) (List.mem_cons_of_mem _ (List.mem_filter.mpr ⟨ev_conc_mem q1 a1, ?_⟩))⟩
    rw [ev_isL_cat a1] at q2
    exact q2
theorem ev_st2_ok {g : ev_G} {L : List (Nat × ev_A)} {nL i : Nat} {ls ls' : Array Slot} {a : ev_A} {v : Value} (h : ev_l g L nL ls) (hv : ev_v g a = some v) (h' : lv_has ls' nL ((i, v) :: (ev_conc g L).filter (fun q => !(q.1 == i) && (!(q.1 == i + 1) && !(q.1 + 1 == i && q.2.category == 2))))) : ev_l g (ev_st2 L i a) nL ls' := by
  refine ⟨h'.1, h'.2.1, fun q hq => ?_⟩
  rcases List.mem_cons.mp hq with rfl | hq
  · exact ⟨v, hv, h'.2.2 _ List.mem_cons_self⟩
  · obtain ⟨q1, q2⟩ := List.mem_filter.mp hq
    obtain ⟨x, a1, a2⟩ := h.2.2 q q1
    refine ⟨x, a1, h'.2.2 (q.1, x) (List.mem_cons_of_mem _ (List.mem_filter.mpr ⟨ev_conc_mem q1 a1, ?_⟩))⟩
    rw [ev_isL_cat a1] at q2
    exact q2
def ev_sto (ok : ev_A → Bool) (wide : Nat) (n i nL : Nat) (S : ev_S) : Option (List ev_S) := match S.2.2.1 with
  | a :: st => if ok a = true ∧ i + wide < nL then some [(S.1 + n, (if wide = 0 then ev_st1 S.2.1 i a else ev_st2 S.2.1 i a), st, S.2.2.2)] else none
  | [] => none
theorem ev_sto_ok {ok : ev_A → Bool} {wide n i nL pc : Nat} {L : List (Nat × ev_A)} {st : List ev_A} {r} {Ss : List ev_S} (h : ev_sto ok wide n i nL (pc, L, st, r) = some Ss) : ∃ a st', st = a :: st' ∧ ok a = true ∧ i + wide < nL ∧ Ss = [(pc + n, (if wide = 0 then ev_st1 L i a else ev_st2 L i a), st', r)] := by
  unfold ev_sto at h
  split at h
  · rename_i a st' e
    split at h
    · rename_i hok
      cases h
      exact ⟨a, st', e, hok.1, hok.2, rfl⟩
    · cases h
  · cases h

def ev_istore : ev_O := (fun _ t => some (.istore t.1.toNat, 2, []), fun P t S => ev_sto ev_isI 0 2 t.1.toNat P.2.2.2.2.1 S)
theorem ev_istore_ok : ev_Snd ev_istore := by
  intro p l e R s m args below meth c cc Q D A g0 P t S i n cs Ss X h1 hd hw h2 hk g ws H locs ls sc hle hR
  obtain ⟨hx, hb, hml, hown, hts, hK, hA, hN, hini, hcC, hcS, hf, hlc, hscr⟩ := X
  obtain ⟨pc, L, st, w, K, ce, sl⟩ := S
  have h1 : some ((.istore t.1.toNat : Instr), (2 : Nat), ([] : List Cond)) = some (i, n, cs) := h1
  cases h1
  · obtain ⟨a, st', rfl, hok, hi, rfl⟩ := ev_sto_ok h2
    obtain ⟨hP, hD, hS, hW, hB, hL, hs⟩ := hR
    obtain ⟨v, sc', rfl, hv, hs2⟩ := ev_s_cons hs
    obtain ⟨x, rfl⟩ := ev_vI hok hv
    exact lv_istore hx hb hd (ev_conc_has hL) hi rfl (fun ls' hl' => hk _ (List.mem_singleton.mpr rfl) g ws H locs ls' _ hle ⟨hP, hD, hS, hW, hB, ev_st1_ok hL hv hl', hs2⟩)
def ev_istoren : ev_O := (fun _ t => if h : t.1.toNat < 4 then some (.istore_n ⟨t.1.toNat, h⟩, 1, []) else none, fun P t S => ev_sto ev_isI 0 1 t.1.toNat P.2.2.2.2.1 S)
theorem ev_istoren_ok : ev_Snd ev_istoren := by
  intro p l e R s m args below meth c cc Q D A g0 P t S i n cs Ss X h1 hd hw h2 hk g ws H locs ls sc hle hR
  obtain ⟨hx, hb, hml, hown, hts, hK, hA, hN, hini, hcC, hcS, hf, hlc, hscr⟩ := X
  obtain ⟨pc, L, st, w, K, ce, sl⟩ := S
  have h1 : (if h : t.1.toNat < 4 then some ((.istore_n ⟨t.1.toNat, h⟩ : Instr), (1 : Nat), ([] : List Cond)) else none) = some (i, n, cs) := h1
  split at h1
  · cases h1
    obtain ⟨a, st', rfl, hok, hi, rfl⟩ := ev_sto_ok h2
    obtain ⟨hP, hD, hS, hW, hB, hL, hs⟩ := hR
    obtain ⟨v, sc', rfl, hv, hs2⟩ := ev_s_cons hs
    obtain ⟨x, rfl⟩ := ev_vI hok hv
    exact lv_istore_n hx hb hd rfl (ev_conc_has hL) hi rfl (fun ls' hl' => hk _ (List.mem_singleton.mpr rfl) g ws H locs ls' _ hle ⟨hP, hD, hS, hW, hB, ev_st1_ok hL hv hl', hs2⟩)
  · cases h1

def ev_lstore : ev_O := (fun _ t => some (.lstore t.1.toNat, 2, []), fun P t S => ev_sto ev_isL 1 2 t.1.toNat P.2.2.2.2.1 S)
theorem ev_lstore_ok : ev_Snd ev_lstore := by
  intro p l e R s m args below meth c cc Q D A g0 P t S i n cs Ss X h1 hd hw h2 hk g ws H locs ls sc hle hR
  obtain ⟨hx, hb, hml, hown, hts, hK, hA, hN, hini, hcC, hcS, hf, hlc, hscr⟩ := X
  obtain ⟨pc, L, st, w, K, ce, sl⟩ := S
  have h1 : some ((.lstore t.1.toNat : Instr), (2 : Nat), ([] : List Cond)) = some (i, n, cs) := h1
  cases h1
  · obtain ⟨a, st', rfl, hok, hi, rfl⟩ := ev_sto_ok h2
    obtain ⟨hP, hD, hS, hW, hB, hL, hs⟩ := hR
    obtain ⟨v, sc', rfl, hv, hs2⟩ := ev_s_cons hs
    obtain ⟨x, rfl⟩ := ev_vL hok hv
    exact lv_lstore hx hb hd (ev_conc_has hL) hi rfl (fun ls' hl' => hk _ (List.mem_singleton.mpr rfl) g ws H locs ls' _ hle ⟨hP, hD, hS, hW, hB, ev_st2_ok hL hv hl', hs2⟩)
def ev_lstoren : ev_O := (fun _ t => if h : t.1.toNat < 4 then some (.lstore_n ⟨t.1.toNat, h⟩, 1, []) else none, fun P t S => ev_sto ev_isL 1 1 t.1.toNat P.2.2.2.2.1 S)
theorem ev_lstoren_ok : ev_Snd ev_lstoren := by
  intro p l e R s m args below meth c cc Q D A g0 P t S i n cs Ss X h1 hd hw h2 hk g ws H locs ls sc hle hR
  obtain ⟨hx, hb, hml, hown, hts, hK, hA, hN, hini, hcC, hcS, hf, hlc, hscr⟩ := X
  obtain ⟨pc, L, st, w, K, ce, sl⟩ := S
  have h1 : (if h : t.1.toNat < 4 then some ((.lstore_n ⟨t.1.toNat, h⟩ : Instr), (1 : Nat), ([] : List Cond)) else none) = some (i, n, cs) := h1
  split at h1
  · cases h1
    obtain ⟨a, st', rfl, hok, hi, rfl⟩ := ev_sto_ok h2
    obtain ⟨hP, hD, hS, hW, hB, hL, hs⟩ := hR
    obtain ⟨v, sc', rfl, hv, hs2⟩ := ev_s_cons hs
    obtain ⟨x, rfl⟩ := ev_vL hok hv
    exact lv_lstore_n hx hb hd rfl (ev_conc_has hL) hi rfl (fun ls' hl' => hk _ (List.mem_singleton.mpr rfl) g ws H locs ls' _ hle ⟨hP, hD, hS, hW, hB, ev_st2_ok hL hv hl', hs2⟩)
  · cases h1

def ev_astore : ev_O := (fun _ t => some (.astore t.1.toNat, 2, []), fun P t S => ev_sto ev_isR 0 2 t.1.toNat P.2.2.2.2.1 S)
theorem ev_astore_ok : ev_Snd ev_astore := by
  intro p l e R s m args below meth c cc Q D A g0 P t S i n cs Ss X h1 hd hw h2 hk g ws H locs ls sc hle hR
  obtain ⟨hx, hb, hml, hown, hts, hK, hA, hN, hini, hcC, hcS, hf, hlc, hscr⟩ := X
  obtain ⟨pc, L, st, w, K, ce, sl⟩ := S
  have h1 : some ((.astore t.1.toNat : Instr), (2 : Nat), ([] : List Cond)) = some (i, n, cs) := h1
  cases h1
  · obtain ⟨a, st', rfl, hok, hi, rfl⟩ := ev_sto_ok h2
    obtain ⟨hP, hD, hS, hW, hB, hL, hs⟩ := hR
    obtain ⟨v, sc', rfl, hv, hs2⟩ := ev_s_cons hs
    obtain ⟨x, rfl⟩ := ev_vR hok hv
    exact lv_astore hx hb hd (ev_conc_has hL) hi rfl (fun ls' hl' => hk _ (List.mem_singleton.mpr rfl) g ws H locs ls' _ hle ⟨hP, hD, hS, hW, hB, ev_st1_ok hL hv hl', hs2⟩)
def ev_astoren : ev_O := (fun _ t => if h : t.1.toNat < 4 then some (.astore_n ⟨t.1.toNat, h⟩, 1, []) else none, fun P t S => ev_sto ev_isR 0 1 t.1.toNat P.2.2.2.2.1 S)
theorem ev_astoren_ok : ev_Snd ev_astoren := by
  intro p l e R s m args below meth c cc Q D A g0 P t S i n cs Ss X h1 hd hw h2 hk g ws H locs ls sc hle hR
  obtain ⟨hx, hb, hml, hown, hts, hK, hA, hN, hini, hcC, hcS, hf, hlc, hscr⟩ := X
  obtain ⟨pc, L, st, w, K, ce, sl⟩ := S
  have h1 : (if h : t.1.toNat < 4 then some ((.astore_n ⟨t.1.toNat, h⟩ : Instr), (1 : Nat), ([] : List Cond)) else none) = some (i, n, cs) := h1
  split at h1
  · cases h1
    obtain ⟨a, st', rfl, hok, hi, rfl⟩ := ev_sto_ok h2
    obtain ⟨hP, hD, hS, hW, hB, hL, hs⟩ := hR
    obtain ⟨v, sc', rfl, hv, hs2⟩ := ev_s_cons hs
    obtain ⟨x, rfl⟩ := ev_vR hok hv
    exact lv_astore_n hx hb hd rfl (ev_conc_has hL) hi rfl (fun ls' hl' => hk _ (List.mem_singleton.mpr rfl) g ws H locs ls' _ hle ⟨hP, hD, hS, hW, hB, ev_st1_ok hL hv hl', hs2⟩)
  · cases h1
/-! arithmetic -/
/-- two ints: a number if both are numbers, else a new variable -/
def ev_bin (f : Int32 → Int32 → Int32) (ok : Int32 → Bool) (n : Nat) (S : ev_S) : Option (List ev_S) := match S.2.2.1 with
  | y :: x :: st =>
    if ev_isI x = true ∧ ev_isI y = true then
      (if x.1 = 0 ∧ y.1 = 0 then (if ok (Int32.ofInt y.2) = true then some [ev_adv S n ((0, (f (Int32.ofInt x.2) (Int32.ofInt y.2)).toInt) :: st)] else none)
       else if y.1 = 0 then (if ok (Int32.ofInt y.2) = true then some [ev_advK S n ((3, (S.2.2.2.2.1.length : Int)) :: st) ev_full] else none)
       else if ok 0 = true then some [ev_advK S n ((3, (S.2.2.2.2.1.length : Int)) :: st) ev_full] else none)
    else none
  | _ => none
theorem ev_bin_ok (f : Int32 → Int32 → Int32) (ok : Int32 → Bool) (hok0 : ok 0 = true → ∀ y, ok y = true) {n pc : Nat} {L : List (Nat × ev_A)} {st : List ev_A} {w : List ev_C} {K : ev_K} {ce sl : Nat} {Ss : List ev_S} (h : ev_bin f ok n (pc, L, st, w, K, ce, sl) = some Ss)
    {s : State} {A : Nat → Prop} {D : va_G} {nL : Nat} {g : ev_G} {ws : va_W} {H : Heap} {locs : List Loc} {ls : Array Slot} {sc : List Value} (hR : ev_R s A D nL g (pc, L, st, w, K, ce, sl) ws H locs ls sc) :
    ∃ (x y : Int32) (rest : List Value) (S' : ev_S), sc = .int y :: .int x :: rest ∧ ok y = true ∧ Ss = [S'] ∧ S'.1 = pc + n ∧ S'.2.2.2.2.2 = (ce, sl) ∧ ∃ g', ev_le g g' ∧ ev_R s A D nL g' S' ws H locs ls (.int (f x y) :: rest) := by
  unfold ev_bin at h
  split at h
  · rename_i y x st' e
    dsimp only at e
    subst e
    split at h
    · rename_i hi
      have hR0 := hR
      obtain ⟨hP, hD, hS, hW, hB, hL, hs⟩ := hR0
      obtain ⟨vy, sc1, rfl, hvy, hs1⟩ := ev_s_cons hs
      obtain ⟨vx, sc2, rfl, hvx, hs2⟩ := ev_s_cons hs1
      obtain ⟨y0, rfl⟩ := ev_vI hi.2 hvy
      obtain ⟨x0, rfl⟩ := ev_vI hi.1 hvx
      have fr : ∃ g', ev_le g g' ∧ ev_R s A D nL g' (ev_advK (pc, L, y :: x :: st', w, K, ce, sl) n ((3, (K.length : Int)) :: st') ev_full) ws H locs ls (.int (f x0 y0) :: sc2) := by
        obtain ⟨g', l1, ⟨hP, hD, hS, hW, hB, hL, hs⟩, e1⟩ := ev_fresh hR (.int (f x0 y0)) ev_full (fun z hz => by cases hz; exact ev_full_ok _)
        exact ⟨g', l1, hP, hD, hS, hW, hB, hL, ev_v3 e1, hs.2.2⟩
      split at h
      · rename_i hz
        split at h
        · rename_i hy
          cases h
          obtain ⟨xt, xn⟩ := x
          obtain ⟨yt, yn⟩ := y
          obtain ⟨rfl, rfl⟩ := hz
          have ex : Int32.ofInt xn = x0 := Value.int.inj (Option.some.inj hvx)
          have ey : Int32.ofInt yn = y0 := Value.int.inj (Option.some.inj hvy)
          dsimp only at hy ⊢
          rw [ex, ey]
          exact ⟨x0, y0, sc2, _, rfl, by rw [← ey]; exact hy, rfl, rfl, rfl, g, ev_le_rf g, hP, hD, hS, hW, hB, hL, ev_v0 g _, hs2⟩
        · cases h
      · split at h
        · rename_i hz
          split at h
          · rename_i hy
            cases h
            obtain ⟨yt, yn⟩ := y
            have hz : yt = 0 := hz
            subst hz
            have ey : Int32.ofInt yn = y0 := Value.int.inj (Option.some.inj hvy)
            exact ⟨x0, y0, sc2, _, rfl, by rw [← ey]; exact hy, rfl, rfl, rfl, fr⟩
          · cases h
        · split at h
          · rename_i hy
            cases h
            exact ⟨x0, y0, sc2, _, rfl, hok0 hy _, rfl, rfl, rfl, fr⟩
          · cases h
    · cases h
  · cases h
theorem ev_Go_eq {p : Program} {l : Launch} {e : Env} {R : Room} {s : State} {m : MethodId} {args : Array Value} {below : List Frame} {meth : Method} {c : Code} {Q : State → Prop} {nL : Nat} {D : va_G} {A : Nat → Prop} {g0 : ev_G} {S : ev_S} {pc ce sl : Nat} (h : ev_Go p l e R s m args below meth c Q nL D A g0 S) (h1 : S.1 = pc) (h2 : S.2.2.2.2.2 = (ce, sl))
    {g : ev_G} {ws : va_W} {H : Heap} {locs : List Loc} {ls : Array Slot} {sc : List Value} (hle : ev_le g0 g) (hR : ev_R s A D nL g S ws H locs ls sc) : W p l e R s m args below meth c H locs ce sl Q (F0 m pc ls sc) := by
  have := h g ws H locs ls sc hle hR
  rw [h1, h2] at this
  exact this

def ev_iadd : ev_O := (fun _ _ => some (.iadd, 1, []), fun _ _ S => ev_bin (fun x y => x + y) (fun _ => true) 1 S)
theorem ev_iadd_ok : ev_Snd ev_iadd := by
  intro p l e R s m args below meth c cc Q D A g0 P t S i n cs Ss X h1 hd hw h2 hk g ws H locs ls sc hle hR
  obtain ⟨hx, hb, hml, hown, hts, hK, hA, hN, hini, hcC, hcS, hf, hlc, hscr⟩ := X
  obtain ⟨pc, L, st, w, K, ce, sl⟩ := S
  have h1 : some ((.iadd : Instr), (1 : Nat), ([] : List Cond)) = some (i, n, cs) := h1
  cases h1
  · obtain ⟨x0, y0, rest, S', rfl, hy, rfl, e1, e2, g', l1, hR'⟩ := ev_bin_ok (fun x y => x + y) (fun _ => true) (fun _ _ => rfl) (show ev_bin (fun x y => x + y) (fun _ => true) 1 (pc, L, st, w, K, ce, sl) = some Ss from h2) hR
    exact lv_iadd hx hb hd (ev_Go_eq (hk S' (List.mem_singleton.mpr rfl)) e1 e2 (ev_le_tr hle l1) hR')

def ev_isub : ev_O := (fun _ _ => some (.isub, 1, []), fun _ _ S => ev_bin (fun x y => x - y) (fun _ => true) 1 S)
theorem ev_isub_ok : ev_Snd ev_isub := by
  intro p l e R s m args below meth c cc Q D A g0 P t S i n cs Ss X h1 hd hw h2 hk g ws H locs ls sc hle hR
  obtain ⟨hx, hb, hml, hown, hts, hK, hA, hN, hini, hcC, hcS, hf, hlc, hscr⟩ := X
  obtain ⟨pc, L, st, w, K, ce, sl⟩ := S
  have h1 : some ((.isub : Instr), (1 : Nat), ([] : List Cond)) = some (i, n, cs) := h1
  cases h1
  · obtain ⟨x0, y0, rest, S', rfl, hy, rfl, e1, e2, g', l1, hR'⟩ := ev_bin_ok (fun x y => x - y) (fun _ => true) (fun _ _ => rfl) (show ev_bin (fun x y => x - y) (fun _ => true) 1 (pc, L, st, w, K, ce, sl) = some Ss from h2) hR
    exact lv_isub hx hb hd (ev_Go_eq (hk S' (List.mem_singleton.mpr rfl)) e1 e2 (ev_le_tr hle l1) hR')

def ev_imul : ev_O := (fun _ _ => some (.imul, 1, []), fun _ _ S => ev_bin (fun x y => x * y) (fun _ => true) 1 S)
theorem ev_imul_ok : ev_Snd ev_imul := by
  intro p l e R s m args below meth c cc Q D A g0 P t S i n cs Ss X h1 hd hw h2 hk g ws H locs ls sc hle hR
  obtain ⟨hx, hb, hml, hown, hts, hK, hA, hN, hini, hcC, hcS, hf, hlc, hscr⟩ := X
  obtain ⟨pc, L, st, w, K, ce, sl⟩ := S
  have h1 : some ((.imul : Instr), (1 : Nat), ([] : List Cond)) = some (i, n, cs) := h1
  cases h1
  · obtain ⟨x0, y0, rest, S', rfl, hy, rfl, e1, e2, g', l1, hR'⟩ := ev_bin_ok (fun x y => x * y) (fun _ => true) (fun _ _ => rfl) (show ev_bin (fun x y => x * y) (fun _ => true) 1 (pc, L, st, w, K, ce, sl) = some Ss from h2) hR
    exact lv_imul hx hb hd (ev_Go_eq (hk S' (List.mem_singleton.mpr rfl)) e1 e2 (ev_le_tr hle l1) hR')

def ev_iand : ev_O := (fun _ _ => some (.iand, 1, []), fun _ _ S => ev_bin (fun x y => x &&& y) (fun _ => true) 1 S)
theorem ev_iand_ok : ev_Snd ev_iand := by
  intro p l e R s m args below meth c cc Q D A g0 P t S i n cs Ss X h1 hd hw h2 hk g ws H locs ls sc hle hR
  obtain ⟨hx, hb, hml, hown, hts, hK, hA, hN, hini, hcC, hcS, hf, hlc, hscr⟩ := X
  obtain ⟨pc, L, st, w, K, ce, sl⟩ := S
  have h1 : some ((.iand : Instr), (1 : Nat), ([] : List Cond)) = some (i, n, cs) := h1
  cases h1
  · obtain ⟨x0, y0, rest, S', rfl, hy, rfl, e1, e2, g', l1, hR'⟩ := ev_bin_ok (fun x y => x &&& y) (fun _ => true) (fun _ _ => rfl) (show ev_bin (fun x y => x &&& y) (fun _ => true) 1 (pc, L, st, w, K, ce, sl) = some Ss from h2) hR
    exact lv_iand hx hb hd (ev_Go_eq (hk S' (List.mem_singleton.mpr rfl)) e1 e2 (ev_le_tr hle l1) hR')

def ev_ior : ev_O := (fun _ _ => some (.ior, 1, []), fun _ _ S => ev_bin (fun x y => x ||| y) (fun _ => true) 1 S)
theorem ev_ior_ok : ev_Snd ev_ior := by
  intro p l e R s m args below meth c cc Q D A g0 P t S i n cs Ss X h1 hd hw h2 hk g ws H locs ls sc hle hR
  obtain ⟨hx, hb, hml, hown, hts, hK, hA, hN, hini, hcC, hcS, hf, hlc, hscr⟩ := X
  obtain ⟨pc, L, st, w, K, ce, sl⟩ := S
  have h1 : some ((.ior : Instr), (1 : Nat), ([] : List Cond)) = some (i, n, cs) := h1
  cases h1
  · obtain ⟨x0, y0, rest, S', rfl, hy, rfl, e1, e2, g', l1, hR'⟩ := ev_bin_ok (fun x y => x ||| y) (fun _ => true) (fun _ _ => rfl) (show ev_bin (fun x y => x ||| y) (fun _ => true) 1 (pc, L, st, w, K, ce, sl) = some Ss from h2) hR
    exact lv_ior hx hb hd (ev_Go_eq (hk S' (List.mem_singleton.mpr rfl)) e1 e2 (ev_le_tr hle l1) hR')

def ev_ixor : ev_O := (fun _ _ => some (.ixor, 1, []), fun _ _ S => ev_bin (fun x y => x ^^^ y) (fun _ => true) 1 S)
theorem ev_ixor_ok : ev_Snd ev_ixor := by
  intro p l e R s m args below meth c cc Q D A g0 P t S i n cs Ss X h1 hd hw h2 hk g ws H locs ls sc hle hR
  obtain ⟨hx, hb, hml, hown, hts, hK, hA, hN, hini, hcC, hcS, hf, hlc, hscr⟩ := X
  obtain ⟨pc, L, st, w, K, ce, sl⟩ := S
  have h1 : some ((.ixor : Instr), (1 : Nat), ([] : List Cond)) = some (i, n, cs) := h1
  cases h1
  · obtain ⟨x0, y0, rest, S', rfl, hy, rfl, e1, e2, g', l1, hR'⟩ := ev_bin_ok (fun x y => x ^^^ y) (fun _ => true) (fun _ _ => rfl) (show ev_bin (fun x y => x ^^^ y) (fun _ => true) 1 (pc, L, st, w, K, ce, sl) = some Ss from h2) hR
    exact lv_ixor hx hb hd (ev_Go_eq (hk S' (List.mem_singleton.mpr rfl)) e1 e2 (ev_le_tr hle l1) hR')

def ev_ishl : ev_O := (fun _ _ => some (.ishl, 1, []), fun _ _ S => ev_bin (fun x y => x <<< (y &&& 31)) (fun _ => true) 1 S)
theorem ev_ishl_ok : ev_Snd ev_ishl := by
  intro p l e R s m args below meth c cc Q D A g0 P t S i n cs Ss X h1 hd hw h2 hk g ws H locs ls sc hle hR
  obtain ⟨hx, hb, hml, hown, hts, hK, hA, hN, hini, hcC, hcS, hf, hlc, hscr⟩ := X
  obtain ⟨pc, L, st, w, K, ce, sl⟩ := S
  have h1 : some ((.ishl : Instr), (1 : Nat), ([] : List Cond)) = some (i, n, cs) := h1
  cases h1
  · obtain ⟨x0, y0, rest, S', rfl, hy, rfl, e1, e2, g', l1, hR'⟩ := ev_bin_ok (fun x y => x <<< (y &&& 31)) (fun _ => true) (fun _ _ => rfl) (show ev_bin (fun x y => x <<< (y &&& 31)) (fun _ => true) 1 (pc, L, st, w, K, ce, sl) = some Ss from h2) hR
    exact lv_ishl hx hb hd (ev_Go_eq (hk S' (List.mem_singleton.mpr rfl)) e1 e2 (ev_le_tr hle l1) hR')

def ev_ishr : ev_O := (fun _ _ => some (.ishr, 1, []), fun _ _ S => ev_bin (fun x y => x >>> (y &&& 31)) (fun _ => true) 1 S)
theorem ev_ishr_ok : ev_Snd ev_ishr := by
  intro p l e R s m args below meth c cc Q D A g0 P t S i n cs Ss X h1 hd hw h2 hk g ws H locs ls sc hle hR
  obtain ⟨hx, hb, hml, hown, hts, hK, hA, hN, hini, hcC, hcS, hf, hlc, hscr⟩ := X
  obtain ⟨pc, L, st, w, K, ce, sl⟩ := S
  have h1 : some ((.ishr : Instr), (1 : Nat), ([] : List Cond)) = some (i, n, cs) := h1
  cases h1
  · obtain ⟨x0, y0, rest, S', rfl, hy, rfl, e1, e2, g', l1, hR'⟩ := ev_bin_ok (fun x y => x >>> (y &&& 31)) (fun _ => true) (fun _ _ => rfl) (show ev_bin (fun x y => x >>> (y &&& 31)) (fun _ => true) 1 (pc, L, st, w, K, ce, sl) = some Ss from h2) hR
    exact lv_ishr hx hb hd (ev_Go_eq (hk S' (List.mem_singleton.mpr rfl)) e1 e2 (ev_le_tr hle l1) hR')

def ev_iushr : ev_O := (fun _ _ => some (.iushr, 1, []), fun _ _ S => ev_bin (fun x y => (x.toUInt32 >>> (y.toUInt32 &&& Int32.toUInt32 31)).toInt32) (fun _ => true) 1 S)
theorem ev_iushr_ok : ev_Snd ev_iushr := by
  intro p l e R s m args below meth c cc Q D A g0 P t S i n cs Ss X h1 hd hw h2 hk g ws H locs ls sc hle hR
  obtain ⟨hx, hb, hml, hown, hts, hK, hA, hN, hini, hcC, hcS, hf, hlc, hscr⟩ := X
  obtain ⟨pc, L, st, w, K, ce, sl⟩ := S
  have h1 : some ((.iushr : Instr), (1 : Nat), ([] : List Cond)) = some (i, n, cs) := h1
  cases h1
  · obtain ⟨x0, y0, rest, S', rfl, hy, rfl, e1, e2, g', l1, hR'⟩ := ev_bin_ok (fun x y => (x.toUInt32 >>> (y.toUInt32 &&& Int32.toUInt32 31)).toInt32) (fun _ => true) (fun _ _ => rfl) (show ev_bin (fun x y => (x.toUInt32 >>> (y.toUInt32 &&& Int32.toUInt32 31)).toInt32) (fun _ => true) 1 (pc, L, st, w, K, ce, sl) = some Ss from h2) hR
    exact lv_iushr hx hb hd rfl (ev_Go_eq (hk S' (List.mem_singleton.mpr rfl)) e1 e2 (ev_le_tr hle l1) hR')

def ev_idiv : ev_O := (fun _ _ => some (.idiv, 1, []), fun _ _ S => ev_bin (fun x y => x / y) (fun y => !(y == 0)) 1 S)
theorem ev_idiv_ok : ev_Snd ev_idiv := by
  intro p l e R s m args below meth c cc Q D A g0 P t S i n cs Ss X h1 hd hw h2 hk g ws H locs ls sc hle hR
  obtain ⟨hx, hb, hml, hown, hts, hK, hA, hN, hini, hcC, hcS, hf, hlc, hscr⟩ := X
  obtain ⟨pc, L, st, w, K, ce, sl⟩ := S
  have h1 : some ((.idiv : Instr), (1 : Nat), ([] : List Cond)) = some (i, n, cs) := h1
  cases h1
  · obtain ⟨x0, y0, rest, S', rfl, hy, rfl, e1, e2, g', l1, hR'⟩ := ev_bin_ok (fun x y => x / y) (fun y => !(y == 0)) (fun h => by simp at h) (show ev_bin (fun x y => x / y) (fun y => !(y == 0)) 1 (pc, L, st, w, K, ce, sl) = some Ss from h2) hR
    have hne : ¬ y0 = 0 := by simpa using hy
    exact lv_idiv hx hb hd hne (ev_Go_eq (hk S' (List.mem_singleton.mpr rfl)) e1 e2 (ev_le_tr hle l1) hR')

def ev_irem : ev_O := (fun _ _ => some (.irem, 1, []), fun _ _ S => ev_bin (fun x y => x - x / y * y) (fun y => !(y == 0)) 1 S)
theorem ev_irem_ok : ev_Snd ev_irem := by
  intro p l e R s m args below meth c cc Q D A g0 P t S i n cs Ss X h1 hd hw h2 hk g ws H locs ls sc hle hR
  obtain ⟨hx, hb, hml, hown, hts, hK, hA, hN, hini, hcC, hcS, hf, hlc, hscr⟩ := X
  obtain ⟨pc, L, st, w, K, ce, sl⟩ := S
  have h1 : some ((.irem : Instr), (1 : Nat), ([] : List Cond)) = some (i, n, cs) := h1
  cases h1
  · obtain ⟨x0, y0, rest, S', rfl, hy, rfl, e1, e2, g', l1, hR'⟩ := ev_bin_ok (fun x y => x - x / y * y) (fun y => !(y == 0)) (fun h => by simp at h) (show ev_bin (fun x y => x - x / y * y) (fun y => !(y == 0)) 1 (pc, L, st, w, K, ce, sl) = some Ss from h2) hR
    have hne : ¬ y0 = 0 := by simpa using hy
    exact lv_irem hx hb hd hne (ev_Go_eq (hk S' (List.mem_singleton.mpr rfl)) e1 e2 (ev_le_tr hle l1) hR')

def ev_una (f : Int32 → Int32) (n : Nat) (r : Int × Int) (S : ev_S) : Option (List ev_S) := match S.2.2.1 with
  | x :: st =>
    if ev_isI x = true then
      (if x.1 = 0 then some [ev_adv S n ((0, (f (Int32.ofInt x.2)).toInt) :: st)]
       else some [ev_advK S n ((3, (S.2.2.2.2.1.length : Int)) :: st) r])
    else none
  | _ => none
theorem ev_una_ok (f : Int32 → Int32) (r : Int × Int) (hr : ∀ x, r.1 ≤ (f x).toInt ∧ (f x).toInt ≤ r.2) {n pc : Nat} {L : List (Nat × ev_A)} {st : List ev_A} {w : List ev_C} {K : ev_K} {ce sl : Nat} {Ss : List ev_S} (h : ev_una f n r (pc, L, st, w, K, ce, sl) = some Ss)
    {s : State} {A : Nat → Prop} {D : va_G} {nL : Nat} {g : ev_G} {ws : va_W} {H : Heap} {locs : List Loc} {ls : Array Slot} {sc : List Value} (hR : ev_R s A D nL g (pc, L, st, w, K, ce, sl) ws H locs ls sc) :
    ∃ (x : Int32) (rest : List Value) (S' : ev_S), sc = .int x :: rest ∧ Ss = [S'] ∧ S'.1 = pc + n ∧ S'.2.2.2.2.2 = (ce, sl) ∧ ∃ g', ev_le g g' ∧ ev_R s A D nL g' S' ws H locs ls (.int (f x) :: rest) := by
  unfold ev_una at h
  split at h
  · rename_i x st' e
    dsimp only at e
    subst e
    split at h
    · rename_i hi
      have hR0 := hR
      obtain ⟨hP, hD, hS, hW, hB, hL, hs⟩ := hR0
      obtain ⟨vx, sc2, rfl, hvx, hs2⟩ := ev_s_cons hs
      obtain ⟨x0, rfl⟩ := ev_vI hi hvx
      split at h
      · rename_i hz
        cases h
        obtain ⟨xt, xn⟩ := x
        have hz : xt = 0 := hz
        subst hz
        have ex : Int32.ofInt xn = x0 := Value.int.inj (Option.some.inj hvx)
        dsimp only
        rw [ex]
        exact ⟨x0, sc2, _, rfl, rfl, rfl, rfl, g, ev_le_rf g, hP, hD, hS, hW, hB, hL, ev_v0 g _, hs2⟩
      · cases h
        obtain ⟨g', l1, ⟨hP, hD, hS, hW, hB, hL, hs⟩, e1⟩ := ev_fresh hR (.int (f x0)) r (fun z hz => by cases hz; exact hr _)
        exact ⟨x0, sc2, _, rfl, rfl, rfl, rfl, g', l1, hP, hD, hS, hW, hB, hL, ev_v3 e1, hs.2⟩
    · cases h
  · cases h

def ev_ineg : ev_O := (fun _ _ => some (.ineg, 1, []), fun _ _ S => ev_una (fun x => -x) 1 ev_full S)
theorem ev_ineg_ok : ev_Snd ev_ineg := by
  intro p l e R s m args below meth c cc Q D A g0 P t S i n cs Ss X h1 hd hw h2 hk g ws H locs ls sc hle hR
  obtain ⟨hx, hb, hml, hown, hts, hK, hA, hN, hini, hcC, hcS, hf, hlc, hscr⟩ := X
  obtain ⟨pc, L, st, w, K, ce, sl⟩ := S
  have h1 : some ((.ineg : Instr), (1 : Nat), ([] : List Cond)) = some (i, n, cs) := h1
  cases h1
  · obtain ⟨x0, rest, S', rfl, rfl, e1, e2, g', l1, hR'⟩ := ev_una_ok (fun x => -x) ev_full (fun _ => ev_full_ok _) (show ev_una (fun x => -x) 1 ev_full (pc, L, st, w, K, ce, sl) = some Ss from h2) hR
    exact lv_ineg hx hb hd (ev_Go_eq (hk S' (List.mem_singleton.mpr rfl)) e1 e2 (ev_le_tr hle l1) hR')

def ev_i2b : ev_O := (fun _ _ => some (.i2b, 1, []), fun _ _ S => ev_una (fun x => x.toInt8.toInt32) 1 ev_full S)
theorem ev_i2b_ok : ev_Snd ev_i2b := by
  intro p l e R s m args below meth c cc Q D A g0 P t S i n cs Ss X h1 hd hw h2 hk g ws H locs ls sc hle hR
  obtain ⟨hx, hb, hml, hown, hts, hK, hA, hN, hini, hcC, hcS, hf, hlc, hscr⟩ := X
  obtain ⟨pc, L, st, w, K, ce, sl⟩ := S
  have h1 : some ((.i2b : Instr), (1 : Nat), ([] : List Cond)) = some (i, n, cs) := h1
  cases h1
  · obtain ⟨x0, rest, S', rfl, rfl, e1, e2, g', l1, hR'⟩ := ev_una_ok (fun x => x.toInt8.toInt32) ev_full (fun _ => ev_full_ok _) (show ev_una (fun x => x.toInt8.toInt32) 1 ev_full (pc, L, st, w, K, ce, sl) = some Ss from h2) hR
    exact lv_i2b hx hb hd rfl (ev_Go_eq (hk S' (List.mem_singleton.mpr rfl)) e1 e2 (ev_le_tr hle l1) hR')

def ev_i2l : ev_O := (fun _ _ => some (.i2l, 1, []), fun _ _ S => match S.2.2.1 with
  | x :: st => if ev_isI x = true then (if x.1 = 0 then some [ev_adv S 1 ((4, ((Int32.ofInt x.2).toInt64).toInt) :: st)] else some [ev_advK S 1 ((6, (S.2.2.2.2.1.length : Int)) :: st) ev_full]) else none
  | _ => none)
theorem ev_i2l_ok : ev_Snd ev_i2l := by
  intro p l e R s m args below meth c cc Q D A g0 P t S i n cs Ss X h1 hd hw h2 hk g ws H locs ls sc hle hR
  obtain ⟨hx, hb, hml, hown, hts, hK, hA, hN, hini, hcC, hcS, hf, hlc, hscr⟩ := X
  obtain ⟨pc, L, st, w, K, ce, sl⟩ := S
  have h1 : some ((.i2l : Instr), (1 : Nat), ([] : List Cond)) = some (i, n, cs) := h1
  cases h1
  unfold ev_i2l at h2
  dsimp only at h2
  split at h2
  · rename_i x st'
    split at h2
    · rename_i hi
      have hR0 := hR
      obtain ⟨hP, hD, hS, hW, hB, hL, hs⟩ := hR0
      obtain ⟨vx, sc2, rfl, hvx, hs2⟩ := ev_s_cons hs
      obtain ⟨x0, rfl⟩ := ev_vI hi hvx
      split at h2
      · rename_i hz
        cases h2
        obtain ⟨xt, xn⟩ := x
        have hz : xt = 0 := hz
        subst hz
        have ex : Int32.ofInt xn = x0 := Value.int.inj (Option.some.inj hvx)
        exact lv_i2l hx hb hd rfl (hk _ (List.mem_singleton.mpr rfl) g ws H locs ls _ hle ⟨hP, hD, hS, hW, hB, hL, by dsimp only; rw [ex]; exact ev_v4 g _, hs2⟩)
      · cases h2
        obtain ⟨g', l1, ⟨hP, hD, hS, hW, hB, hL, hs⟩, e1⟩ := ev_fresh hR (.long x0.toInt64) ev_full (fun z hz => by cases hz)
        exact lv_i2l hx hb hd rfl (hk _ (List.mem_singleton.mpr rfl) g' ws H locs ls _ (ev_le_tr hle l1) ⟨hP, hD, hS, hW, hB, hL, ev_v6 e1, hs.2⟩)
    · cases h2
  · cases h2
def ev_lcmp : ev_O := (fun _ _ => some (.lcmp, 1, []), fun _ _ S => match S.2.2.1 with
  | y :: x :: st => if ev_isL x = true ∧ ev_isL y = true then (if x.1 = 4 ∧ y.1 = 4 then some [ev_adv S 1 ((0, (lg_cmp (Int64.ofInt x.2) (Int64.ofInt y.2)).toInt) :: st)] else some [ev_advK S 1 ((3, (S.2.2.2.2.1.length : Int)) :: st) ev_full]) else none
  | _ => none)
theorem ev_lcmp_ok : ev_Snd ev_lcmp := by
  intro p l e R s m args below meth c cc Q D A g0 P t S i n cs Ss X h1 hd hw h2 hk g ws H locs ls sc hle hR
  obtain ⟨hx, hb, hml, hown, hts, hK, hA, hN, hini, hcC, hcS, hf, hlc, hscr⟩ := X
  obtain ⟨pc, L, st, w, K, ce, sl⟩ := S
  have h1 : some ((.lcmp : Instr), (1 : Nat), ([] : List Cond)) = some (i, n, cs) := h1
  cases h1
  unfold ev_lcmp at h2
  dsimp only at h2
  split at h2
  · rename_i y x st'
    split at h2
    · rename_i hi
      have hR0 := hR
      obtain ⟨hP, hD, hS, hW, hB, hL, hs⟩ := hR0
      obtain ⟨vy, sc1, rfl, hvy, hs1⟩ := ev_s_cons hs
      obtain ⟨vx, sc2, rfl, hvx, hs2⟩ := ev_s_cons hs1
      obtain ⟨y0, rfl⟩ := ev_vL hi.2 hvy
      obtain ⟨x0, rfl⟩ := ev_vL hi.1 hvx
      split at h2
      · rename_i hz
        cases h2
        obtain ⟨xt, xn⟩ := x
        obtain ⟨yt, yn⟩ := y
        obtain ⟨rfl, rfl⟩ := hz
        have ex : Int64.ofInt xn = x0 := Value.long.inj (Option.some.inj hvx)
        have ey : Int64.ofInt yn = y0 := Value.long.inj (Option.some.inj hvy)
        exact W.lcmp hx hb hd (hk _ (List.mem_singleton.mpr rfl) g ws H locs ls _ hle ⟨hP, hD, hS, hW, hB, hL, by dsimp only; rw [ex, ey]; exact ev_v0 g _, hs2⟩)
      · cases h2
        obtain ⟨g', l1, ⟨hP, hD, hS, hW, hB, hL, hs⟩, e1⟩ := ev_fresh hR (.int (lg_cmp x0 y0)) ev_full (fun z hz => ev_full_ok _)
        exact W.lcmp hx hb hd (hk _ (List.mem_singleton.mpr rfl) g' ws H locs ls _ (ev_le_tr hle l1) ⟨hP, hD, hS, hW, hB, hL, ev_v3 e1, hs.2.2⟩)
    · cases h2
  · cases h2
/-! the stack -/
def ev_dup : ev_O := (fun _ _ => some (.dup, 1, []), fun _ _ S => match S.2.2.1 with
  | x :: st => if ev_isL x = false then some [ev_adv S 1 (x :: x :: st)] else none
  | _ => none)
theorem ev_cat1 {g : ev_G} {a : ev_A} {v : Value} (hv : ev_v g a = some v) (h : ev_isL a = false) : v.category = 1 := by
  rcases ev_cat hv with ⟨h1, h2⟩ | ⟨h1, h2⟩
  · rw [h] at h1; cases h1
  · exact h2
theorem ev_cat2 {g : ev_G} {a : ev_A} {v : Value} (hv : ev_v g a = some v) (h : ev_isL a = true) : v.category = 2 := by
  rcases ev_cat hv with ⟨h1, h2⟩ | ⟨h1, h2⟩
  · exact h2
  · rw [h] at h1; cases h1
theorem ev_dup_ok : ev_Snd ev_dup := by
  intro p l e R s m args below meth c cc Q D A g0 P t S i n cs Ss X h1 hd hw h2 hk g ws H locs ls sc hle hR
  obtain ⟨hx, hb, hml, hown, hts, hK, hA, hN, hini, hcC, hcS, hf, hlc, hscr⟩ := X
  obtain ⟨pc, L, st, w, K, ce, sl⟩ := S
  have h1 : some ((.dup : Instr), (1 : Nat), ([] : List Cond)) = some (i, n, cs) := h1
  cases h1
  unfold ev_dup at h2
  dsimp only at h2
  split at h2
  · rename_i x st'
    split at h2
    · rename_i hi
      cases h2
      obtain ⟨hP, hD, hS, hW, hB, hL, hs⟩ := hR
      obtain ⟨vx, sc2, rfl, hvx, hs2⟩ := ev_s_cons hs
      exact lv_dup hx hb hd (ev_cat1 hvx hi) (hk _ (List.mem_singleton.mpr rfl) g ws H locs ls _ hle ⟨hP, hD, hS, hW, hB, hL, hvx, hvx, hs2⟩)
    · cases h2
  · cases h2
def ev_pop : ev_O := (fun _ _ => some (.pop, 1, []), fun _ _ S => match S.2.2.1 with
  | x :: st => if ev_isL x = false then some [ev_adv S 1 st] else none
  | _ => none)
theorem ev_pop_ok : ev_Snd ev_pop := by
  intro p l e R s m args below meth c cc Q D A g0 P t S i n cs Ss X h1 hd hw h2 hk g ws H locs ls sc hle hR
  obtain ⟨hx, hb, hml, hown, hts, hK, hA, hN, hini, hcC, hcS, hf, hlc, hscr⟩ := X
  obtain ⟨pc, L, st, w, K, ce, sl⟩ := S
  have h1 : some ((.pop : Instr), (1 : Nat), ([] : List Cond)) = some (i, n, cs) := h1
  cases h1
  unfold ev_pop at h2
  dsimp only at h2
  split at h2
  · rename_i x st'
    split at h2
    · rename_i hi
      cases h2
      obtain ⟨hP, hD, hS, hW, hB, hL, hs⟩ := hR
      obtain ⟨vx, sc2, rfl, hvx, hs2⟩ := ev_s_cons hs
      exact lv_pop hx hb hd (ev_cat1 hvx hi) (hk _ (List.mem_singleton.mpr rfl) g ws H locs ls _ hle ⟨hP, hD, hS, hW, hB, hL, hs2⟩)
    · cases h2
  · cases h2
def ev_dup2 : ev_O := (fun _ _ => some (.dup2, 1, []), fun _ _ S => match S.2.2.1 with
  | x :: y :: st => if ev_isL x = false ∧ ev_isL y = false then some [ev_adv S 1 (x :: y :: x :: y :: st)] else none
  | _ => none)
theorem ev_dup2_ok : ev_Snd ev_dup2 := by
  intro p l e R s m args below meth c cc Q D A g0 P t S i n cs Ss X h1 hd hw h2 hk g ws H locs ls sc hle hR
  obtain ⟨hx, hb, hml, hown, hts, hK, hA, hN, hini, hcC, hcS, hf, hlc, hscr⟩ := X
  obtain ⟨pc, L, st, w, K, ce, sl⟩ := S
  have h1 : some ((.dup2 : Instr), (1 : Nat), ([] : List Cond)) = some (i, n, cs) := h1
  cases h1
  unfold ev_dup2 at h2
  dsimp only at h2
  split at h2
  · rename_i x y st'
    split at h2
    · rename_i hi
      cases h2
      obtain ⟨hP, hD, hS, hW, hB, hL, hs⟩ := hR
      obtain ⟨vx, sc1, rfl, hvx, hs1⟩ := ev_s_cons hs
      obtain ⟨vy, sc2, rfl, hvy, hs2⟩ := ev_s_cons hs1
      exact lv_dup2_11 hx hb hd (ev_cat1 hvx hi.1) (ev_cat1 hvy hi.2) (hk _ (List.mem_singleton.mpr rfl) g ws H locs ls _ hle ⟨hP, hD, hS, hW, hB, hL, hvx, hvy, hvx, hvy, hs2⟩)
    · cases h2
  · cases h2
/-! iinc -/
def ev_iinc : ev_O := (fun _ t => some (.iinc t.1.toNat t.2.1, 3, []), fun P t S => match ev_look S.2.1 t.1.toNat with
  | some x => if ev_isI x = true ∧ t.1.toNat < P.2.2.2.2.1 then (if x.1 = 0 then some [(S.1 + 3, ev_st1 S.2.1 t.1.toNat (0, (Int32.ofInt x.2 + Int32.ofInt t.2.1).toInt), S.2.2)] else some [(S.1 + 3, ev_st1 S.2.1 t.1.toNat (3, (S.2.2.2.2.1.length : Int)), S.2.2.1, S.2.2.2.1, S.2.2.2.2.1 ++ [ev_full], S.2.2.2.2.2)]) else none
  | none => none)
theorem ev_iinc_ok : ev_Snd ev_iinc := by
  intro p l e R s m args below meth c cc Q D A g0 P t S i n cs Ss X h1 hd hw h2 hk g ws H locs ls sc hle hR
  obtain ⟨hx, hb, hml, hown, hts, hK, hA, hN, hini, hcC, hcS, hf, hlc, hscr⟩ := X
  obtain ⟨pc, L, st, w, K, ce, sl⟩ := S
  have h1 : some ((.iinc t.1.toNat t.2.1 : Instr), (3 : Nat), ([] : List Cond)) = some (i, n, cs) := h1
  cases h1
  unfold ev_iinc at h2
  dsimp only at h2
  split at h2
  · rename_i x ha
    split at h2
    · rename_i hi
      have hR0 := hR
      obtain ⟨hP, hD, hS, hW, hB, hL, hs⟩ := hR0
      obtain ⟨v, hv, hl⟩ := hL.2.2 _ (ev_look_mem ha)
      dsimp only at hv hl
      obtain ⟨x0, rfl⟩ := ev_vI hi.1 hv
      split at h2
      · rename_i hz
        cases h2
        obtain ⟨xt, xn⟩ := x
        have hz : xt = 0 := hz
        subst hz
        have ex : Int32.ofInt xn = x0 := Value.int.inj (Option.some.inj hv)
        obtain ⟨k, hk1⟩ := List.getElem?_of_mem (ev_conc_mem (ev_look_mem ha) hv)
        refine lv_iinc hx hb hd (ev_conc_has hL) hk1 rfl hi.2 rfl (fun ls' hl' => hk _ (List.mem_singleton.mpr rfl) g ws H locs ls' _ hle ⟨hP, hD, hS, hW, hB, ev_st1_ok hL ?_ hl', hs⟩)
        dsimp only
        rw [ex]
        exact ev_v0 g _
      · cases h2
        obtain ⟨g', l1, ⟨hP, hD, hS, hW, hB, hL, hs⟩, e1⟩ := ev_fresh hR (.int (x0 + Int32.ofInt t.2.1)) ev_full (fun z hz => ev_full_ok _)
        have hv := ev_v_le l1 hv
        obtain ⟨k, hk1⟩ := List.getElem?_of_mem (ev_conc_mem (ev_look_mem ha) hv)
        exact lv_iinc hx hb hd (ev_conc_has hL) hk1 rfl hi.2 rfl (fun ls' hl' => hk _ (List.mem_singleton.mpr rfl) g' ws H locs ls' _ (ev_le_tr hle l1) ⟨hP, hD, hS, hW, hB, ev_st1_ok hL (ev_v3 e1) hl', hs⟩)
    · cases h2
  · cases h2
/-! branches: 0 eq, 1 ne, 2 lt, 3 ge, 4 gt, 5 le -/
def ev_cmp (r : Nat) (x y : Int32) : Bool := match r with
  | 0 => decide (x = y)
  | 1 => !decide (x = y)
  | 2 => decide (x < y)
  | 3 => decide (y ≤ x)
  | 4 => decide (y < x)
  | _ => decide (x ≤ y)
def ev_neg (r : Nat) : Nat := match r with
  | 0 => 1
  | 1 => 0
  | 2 => 3
  | 3 => 2
  | 4 => 5
  | _ => 4
theorem ev_neg_ok (r : Nat) (x y : Int32) : ev_cmp (ev_neg r) x y = !ev_cmp r x y := by
  match r with
  | 0 => simp [ev_neg, ev_cmp]
  | 1 => simp [ev_neg, ev_cmp]
  | 2 => show decide (y ≤ x) = !decide (x < y); rw [← decide_not]; exact decide_eq_decide.mpr Int32.not_lt.symm
  | 3 => show decide (x < y) = !decide (y ≤ x); rw [← decide_not]; exact decide_eq_decide.mpr Int32.not_le.symm
  | 4 => show decide (x ≤ y) = !decide (y < x); rw [← decide_not]; exact decide_eq_decide.mpr Int32.not_lt.symm
  | n + 5 => show decide (y < x) = !decide (x ≤ y); rw [← decide_not]; exact decide_eq_decide.mpr Int32.not_le.symm
def ev_swp (r : Nat) : Nat := match r with
  | 0 => 0
  | 1 => 1
  | 2 => 4
  | 3 => 5
  | 4 => 2
  | _ => 3
theorem ev_swp_ok (r : Nat) (x y : Int32) : ev_cmp (ev_swp r) y x = ev_cmp r x y := by
  match r with
  | 0 => simp [ev_swp, ev_cmp, eq_comm]
  | 1 => simp [ev_swp, ev_cmp, eq_comm]
  | 2 => rfl
  | 3 => rfl
  | 4 => rfl
  | n + 5 => rfl
def ev_ref (r : Nat) (b : Int × Int) (c : Int) : Int × Int := match r with
  | 0 => (max b.1 c, min b.2 c)
  | 1 => (if b.1 = c then c + 1 else b.1, if b.2 = c then c - 1 else b.2)
  | 2 => (b.1, min b.2 (c - 1))
  | 3 => (max b.1 c, b.2)
  | 4 => (max b.1 (c + 1), b.2)
  | _ => (b.1, min b.2 c)
theorem ev_ref_ok {r : Nat} {b : Int × Int} {x y : Int32} (hb : b.1 ≤ x.toInt ∧ x.toInt ≤ b.2) (h : ev_cmp r x y = true) : (ev_ref r b y.toInt).1 ≤ x.toInt ∧ x.toInt ≤ (ev_ref r b y.toInt).2 := by
  match r, h with
  | 0, h =>
    have h : x = y := by simpa [ev_cmp] using h
    subst h
    simp only [ev_ref]
    omega
  | 1, h =>
    have h : ¬ x = y := by simpa [ev_cmp] using h
    have h : ¬ x.toInt = y.toInt := fun q => h (Int32.toInt_inj.mp q)
    simp only [ev_ref]
    constructor <;> split <;> omega
  | 2, h =>
    have h : x < y := by simpa [ev_cmp] using h
    rw [Int32.lt_iff_toInt_lt] at h
    simp only [ev_ref]
    omega
  | 3, h =>
    have h : y ≤ x := by simpa [ev_cmp] using h
    rw [Int32.le_iff_toInt_le] at h
    simp only [ev_ref]
    omega
  | 4, h =>
    have h : y < x := by simpa [ev_cmp] using h
    rw [Int32.lt_iff_toInt_lt] at h
    simp only [ev_ref]
    omega
  | n + 5, h =>
    have h : x ≤ y := by simpa [ev_cmp] using h
    rw [Int32.le_iff_toInt_le] at h
    simp only [ev_ref]
    omega
/-- the bounds under which 'x r y' holds: none if it can't -/
def ev_nar (r : Nat) (a : ev_A) (c : Int32) (K : ev_K) : List ev_K := match K[a.2.toNat]? with
  | some b => if (ev_ref r b c.toInt).1 ≤ (ev_ref r b c.toInt).2 then [K.set a.2.toNat (ev_ref r b c.toInt)] else []
  | none => [K]
def ev_br (r : Nat) (x y : ev_A) (K : ev_K) : List ev_K :=
  if x.1 = 0 ∧ y.1 = 0 then (if ev_cmp r (Int32.ofInt x.2) (Int32.ofInt y.2) = true then [K] else [])
  else if x.1 = 3 ∧ y.1 = 0 then ev_nar r x (Int32.ofInt y.2) K
  else if x.1 = 0 ∧ y.1 = 3 then ev_nar (ev_swp r) y (Int32.ofInt x.2) K
  else [K]
theorem ev_b_set {K : ev_K} {E : List Value} {k : Nat} {b : Int × Int} {x : Int32} (h : ev_b K E) (hx : E[k]? = some (.int x)) (hb : b.1 ≤ x.toInt ∧ x.toInt ≤ b.2) : ev_b (K.set k b) E := by
  refine ⟨by rw [List.length_set]; exact h.1, fun j q z h1 h2 => ?_⟩
  by_cases hj : j = k
  · subst hj
    have hl : j < (K.set j b).length := (List.getElem?_eq_some_iff.mp h1).1
    rw [List.length_set] at hl
    rw [List.getElem?_set_self hl] at h1
    cases h1
    rw [hx] at h2
    cases h2
    exact hb
  · rw [List.getElem?_set_ne (Ne.symm hj)] at h1
    exact h.2 j q z h1 h2
theorem ev_var {g : ev_G} {a : ev_A} {x : Int32} (h : a.1 = 3) (hv : ev_v g a = some (.int x)) : g.2.2[a.2.toNat]? = some (.int x) := by
  obtain ⟨t, n⟩ := a
  have h : t = 3 := h
  subst h
  simp only [ev_v] at hv
  split at hv
  · rename_i z hz
    cases hv
    exact hz
  · cases hv
theorem ev_nar_ok {r : Nat} {a : ev_A} {K : ev_K} {g : ev_G} {x y : Int32} (hB : ev_b K g.2.2) (ht : a.1 = 3) (hv : ev_v g a = some (.int x)) (h : ev_cmp r x y = true) : ∃ K' ∈ ev_nar r a y K, ev_b K' g.2.2 := by
  have hE := ev_var ht hv
  unfold ev_nar
  split
  · rename_i b hb
    have h1 := hB.2 _ b x hb hE
    have h2 := ev_ref_ok h1 h
    rw [if_pos (Int.le_trans h2.1 h2.2)]
    exact ⟨_, List.mem_singleton.mpr rfl, ev_b_set hB hE h2⟩
  · exact ⟨_, List.mem_singleton.mpr rfl, hB⟩
theorem ev_br_ok {r : Nat} {a b : ev_A} {K : ev_K} {g : ev_G} {x y : Int32} (hB : ev_b K g.2.2) (ha : ev_v g a = some (.int x)) (hb : ev_v g b = some (.int y)) (h : ev_cmp r x y = true) : ∃ K' ∈ ev_br r a b K, ev_b K' g.2.2 := by
  have cst : ∀ {z : ev_A} {n : Int32}, z.1 = 0 → ev_v g z = some (.int n) → Int32.ofInt z.2 = n := by
    intro z n hz hv
    obtain ⟨t, k⟩ := z
    have hz : t = 0 := hz
    subst hz
    exact Value.int.inj (Option.some.inj hv)
  unfold ev_br
  split
  · rename_i hz
    rw [cst hz.1 ha, cst hz.2 hb, if_pos h]
    exact ⟨_, List.mem_singleton.mpr rfl, hB⟩
  · split
    · rename_i hz
      rw [cst hz.2 hb]
      exact ev_nar_ok hB hz.1 ha h
    · split
      · rename_i hz
        rw [cst hz.1 ha]
        exact ev_nar_ok hB hz.2 hb (by rw [ev_swp_ok]; exact h)
      · exact ⟨_, List.mem_singleton.mpr rfl, hB⟩
def ev_setK (S : ev_S) (pc : Nat) (st : List ev_A) (K : ev_K) : ev_S := (pc, S.2.1, st, S.2.2.2.1, K, S.2.2.2.2.2)
def ev_fork (r : Nat) (x y : ev_A) (off : Int) (st : List ev_A) (S : ev_S) : Option (List ev_S) :=
  if 0 ≤ (S.1 : Int) + off then some ((ev_br r x y S.2.2.2.2.1).map (ev_setK S ((S.1 : Int) + off).toNat st) ++ (ev_br (ev_neg r) x y S.2.2.2.2.1).map (ev_setK S (S.1 + 3) st)) else none
def ev_cnd (r : Nat) : ClassFile.Cond := match r with
  | 0 => .eq
  | 1 => .ne
  | 2 => .lt
  | 3 => .ge
  | 4 => .gt
  | _ => .le
theorem ev_fork_ok {r : Nat} {a b : ev_A} {off : Int} {st' : List ev_A} {pc : Nat} {L : List (Nat × ev_A)} {st : List ev_A} {w : List ev_C} {K : ev_K} {ce sl : Nat} {Ss : List ev_S} (h : ev_fork r a b off st' (pc, L, st, w, K, ce, sl) = some Ss)
    {p : Program} {l : Launch} {e : Env} {R : Room} {s : State} {m : MethodId} {args : Array Value} {below : List Frame} {meth : Method} {c : Code} {Q : State → Prop} {nL : Nat} {D : va_G} {A : Nat → Prop} {g0 : ev_G} (hk : ∀ S' ∈ Ss, ev_Go p l e R s m args below meth c Q nL D A g0 S')
    {g : ev_G} {ws : va_W} {H : Heap} {locs : List Loc} {ls : Array Slot} {sc : List Value} (hle : ev_le g0 g) (hP : va_P D vwCl ws H) (hD : va_D A ws) (hS : va_S A s.heap H locs) (hW : ev_w s g w ws) (hB : ev_b K g.2.2) (hL : ev_l g L nL ls) (hs : ev_s g st' sc) {x y : Int32} (ha : ev_v g a = some (.int x)) (hb : ev_v g b = some (.int y)) :
    ∃ tgt : Nat, (pc : Int) + off = (tgt : Int) ∧ (ev_cmp r x y = true → W p l e R s m args below meth c H locs ce sl Q (F0 m tgt ls sc)) ∧ (ev_cmp r x y = false → W p l e R s m args below meth c H locs ce sl Q (F0 m (pc + 3) ls sc)) := by
  unfold ev_fork at h
  split at h
  · rename_i h0
    dsimp only at h0
    cases h
    refine ⟨((pc : Int) + off).toNat, by omega, fun hc => ?_, fun hc => ?_⟩
    · obtain ⟨K', h1, h2⟩ := ev_br_ok hB ha hb hc
      exact hk _ (List.mem_append_left _ (List.mem_map.mpr ⟨K', h1, rfl⟩)) g ws H locs ls sc hle ⟨hP, hD, hS, hW, h2, hL, hs⟩
    · obtain ⟨K', h1, h2⟩ := ev_br_ok (r := ev_neg r) hB ha hb (by rw [ev_neg_ok, hc]; rfl)
      exact hk _ (List.mem_append_right _ (List.mem_map.mpr ⟨K', h1, rfl⟩)) g ws H locs ls sc hle ⟨hP, hD, hS, hW, h2, hL, hs⟩
  · cases h

def ev_icmp_eq : ev_O := (fun _ t => some (.if_icmp .eq t.1, 3, []), fun _ t S => match S.2.2.1 with
  | y :: x :: st => if ev_isI x = true ∧ ev_isI y = true then ev_fork 0 x y t.1 st S else none
  | _ => none)
theorem ev_icmp_eq_ok : ev_Snd ev_icmp_eq := by
  intro p l e R s m args below meth c cc Q D A g0 P t S i n cs Ss X h1 hd hw h2 hk g ws H locs ls sc hle hR
  obtain ⟨hx, hb, hml, hown, hts, hK, hA, hN, hini, hcC, hcS, hf, hlc, hscr⟩ := X
  obtain ⟨pc, L, st, w, K, ce, sl⟩ := S
  have h1 : some ((.if_icmp .eq t.1 : Instr), (3 : Nat), ([] : List Cond)) = some (i, n, cs) := h1
  cases h1
  unfold ev_icmp_eq at h2
  dsimp only at h2
  split at h2
  · rename_i y x st'
    split at h2
    · rename_i hi
      obtain ⟨hP, hD, hS, hW, hB, hL, hs⟩ := hR
      obtain ⟨vy, sc1, rfl, hvy, hs1⟩ := ev_s_cons hs
      obtain ⟨vx, sc2, rfl, hvx, hs2⟩ := ev_s_cons hs1
      obtain ⟨y0, rfl⟩ := ev_vI hi.2 hvy
      obtain ⟨x0, rfl⟩ := ev_vI hi.1 hvx
      obtain ⟨tgt, ht, k1, k2⟩ := ev_fork_ok h2 hk hle hP hD hS hW hB hL hs2 hvx hvy
      exact lv_icmp_eq hx hb hd ht (fun q => k1 (by simpa [ev_cmp] using q)) (fun q => k2 (by simpa [ev_cmp] using q))
    · cases h2
  · cases h2
def ev_if_eq : ev_O := (fun _ t => some (.ifCond .eq t.1, 3, []), fun _ t S => match S.2.2.1 with
  | x :: st => if ev_isI x = true then ev_fork 0 x (0, 0) t.1 st S else none
  | _ => none)
theorem ev_if_eq_ok : ev_Snd ev_if_eq := by
  intro p l e R s m args below meth c cc Q D A g0 P t S i n cs Ss X h1 hd hw h2 hk g ws H locs ls sc hle hR
  obtain ⟨hx, hb, hml, hown, hts, hK, hA, hN, hini, hcC, hcS, hf, hlc, hscr⟩ := X
  obtain ⟨pc, L, st, w, K, ce, sl⟩ := S
  have h1 : some ((.ifCond .eq t.1 : Instr), (3 : Nat), ([] : List Cond)) = some (i, n, cs) := h1
  cases h1
  unfold ev_if_eq at h2
  dsimp only at h2
  split at h2
  · rename_i x st'
    split at h2
    · rename_i hi
      obtain ⟨hP, hD, hS, hW, hB, hL, hs⟩ := hR
      obtain ⟨vx, sc2, rfl, hvx, hs2⟩ := ev_s_cons hs
      obtain ⟨x0, rfl⟩ := ev_vI hi hvx
      obtain ⟨tgt, ht, k1, k2⟩ := ev_fork_ok h2 hk hle hP hD hS hW hB hL hs2 hvx (show ev_v g (0, 0) = some (.int 0) from rfl)
      exact lv_if_eq hx hb hd ht (fun q => k1 (by simpa [ev_cmp] using q)) (fun q => k2 (by simpa [ev_cmp] using q))
    · cases h2
  · cases h2

def ev_icmp_ne : ev_O := (fun _ t => some (.if_icmp .ne t.1, 3, []), fun _ t S => match S.2.2.1 with
  | y :: x :: st => if ev_isI x = true ∧ ev_isI y = true then ev_fork 1 x y t.1 st S else none
  | _ => none)
theorem ev_icmp_ne_ok : ev_Snd ev_icmp_ne := by
  intro p l e R s m args below meth c cc Q D A g0 P t S i n cs Ss X h1 hd hw h2 hk g ws H locs ls sc hle hR
  obtain ⟨hx, hb, hml, hown, hts, hK, hA, hN, hini, hcC, hcS, hf, hlc, hscr⟩ := X
  obtain ⟨pc, L, st, w, K, ce, sl⟩ := S
  have h1 : some ((.if_icmp .ne t.1 : Instr), (3 : Nat), ([] : List Cond)) = some (i, n, cs) := h1
  cases h1
  unfold ev_icmp_ne at h2
  dsimp only at h2
  split at h2
  · rename_i y x st'
    split at h2
    · rename_i hi
      obtain ⟨hP, hD, hS, hW, hB, hL, hs⟩ := hR
      obtain ⟨vy, sc1, rfl, hvy, hs1⟩ := ev_s_cons hs
      obtain ⟨vx, sc2, rfl, hvx, hs2⟩ := ev_s_cons hs1
      obtain ⟨y0, rfl⟩ := ev_vI hi.2 hvy
      obtain ⟨x0, rfl⟩ := ev_vI hi.1 hvx
      obtain ⟨tgt, ht, k1, k2⟩ := ev_fork_ok h2 hk hle hP hD hS hW hB hL hs2 hvx hvy
      exact lv_icmp_ne hx hb hd ht (fun q => k1 (by simpa [ev_cmp] using q)) (fun q => k2 (by simpa [ev_cmp] using q))
    · cases h2
  · cases h2
def ev_if_ne : ev_O := (fun _ t => some (.ifCond .ne t.1, 3, []), fun _ t S => match S.2.2.1 with
  | x :: st => if ev_isI x = true then ev_fork 1 x (0, 0) t.1 st S else none
  | _ => none)
theorem ev_if_ne_ok : ev_Snd ev_if_ne := by
  intro p l e R s m args below meth c cc Q D A g0 P t S i n cs Ss X h1 hd hw h2 hk g ws H locs ls sc hle hR
  obtain ⟨hx, hb, hml, hown, hts, hK, hA, hN, hini, hcC, hcS, hf, hlc, hscr⟩ := X
  obtain ⟨pc, L, st, w, K, ce, sl⟩ := S
  have h1 : some ((.ifCond .ne t.1 : Instr), (3 : Nat), ([] : List Cond)) = some (i, n, cs) := h1
  cases h1
  unfold ev_if_ne at h2
  dsimp only at h2
  split at h2
  · rename_i x st'
    split at h2
    · rename_i hi
      obtain ⟨hP, hD, hS, hW, hB, hL, hs⟩ := hR
      obtain ⟨vx, sc2, rfl, hvx, hs2⟩ := ev_s_cons hs
      obtain ⟨x0, rfl⟩ := ev_vI hi hvx
      obtain ⟨tgt, ht, k1, k2⟩ := ev_fork_ok h2 hk hle hP hD hS hW hB hL hs2 hvx (show ev_v g (0, 0) = some (.int 0) from rfl)
      exact lv_if_ne hx hb hd ht (fun q => k1 (by simpa [ev_cmp] using q)) (fun q => k2 (by simpa [ev_cmp] using q))
    · cases h2
  · cases h2

def ev_icmp_lt : ev_O := (fun _ t => some (.if_icmp .lt t.1, 3, []), fun _ t S => match S.2.2.1 with
  | y :: x :: st => if ev_isI x = true ∧ ev_isI y = true then ev_fork 2 x y t.1 st S else none
  | _ => none)
theorem ev_icmp_lt_ok : ev_Snd ev_icmp_lt := by
  intro p l e R s m args below meth c cc Q D A g0 P t S i n cs Ss X h1 hd hw h2 hk g ws H locs ls sc hle hR
  obtain ⟨hx, hb, hml, hown, hts, hK, hA, hN, hini, hcC, hcS, hf, hlc, hscr⟩ := X
  obtain ⟨pc, L, st, w, K, ce, sl⟩ := S
  have h1 : some ((.if_icmp .lt t.1 : Instr), (3 : Nat), ([] : List Cond)) = some (i, n, cs) := h1
  cases h1
  unfold ev_icmp_lt at h2
  dsimp only at h2
  split at h2
  · rename_i y x st'
    split at h2
    · rename_i hi
      obtain ⟨hP, hD, hS, hW, hB, hL, hs⟩ := hR
      obtain ⟨vy, sc1, rfl, hvy, hs1⟩ := ev_s_cons hs
      obtain ⟨vx, sc2, rfl, hvx, hs2⟩ := ev_s_cons hs1
      obtain ⟨y0, rfl⟩ := ev_vI hi.2 hvy
      obtain ⟨x0, rfl⟩ := ev_vI hi.1 hvx
      obtain ⟨tgt, ht, k1, k2⟩ := ev_fork_ok h2 hk hle hP hD hS hW hB hL hs2 hvx hvy
      exact lv_icmp_lt hx hb hd ht (fun q => k1 (by simpa [ev_cmp] using q)) (fun q => k2 (by simpa [ev_cmp] using q))
    · cases h2
  · cases h2
def ev_if_lt : ev_O := (fun _ t => some (.ifCond .lt t.1, 3, []), fun _ t S => match S.2.2.1 with
  | x :: st => if ev_isI x = true then ev_fork 2 x (0, 0) t.1 st S else none
  | _ => none)
theorem ev_if_lt_ok : ev_Snd ev_if_lt := by
  intro p l e R s m args below meth c cc Q D A g0 P t S i n cs Ss X h1 hd hw h2 hk g ws H locs ls sc hle hR
  obtain ⟨hx, hb, hml, hown, hts, hK, hA, hN, hini, hcC, hcS, hf, hlc, hscr⟩ := X
  obtain ⟨pc, L, st, w, K, ce, sl⟩ := S
  have h1 : some ((.ifCond .lt t.1 : Instr), (3 : Nat), ([] : List Cond)) = some (i, n, cs) := h1
  cases h1
  unfold ev_if_lt at h2
  dsimp only at h2
  split at h2
  · rename_i x st'
    split at h2
    · rename_i hi
      obtain ⟨hP, hD, hS, hW, hB, hL, hs⟩ := hR
      obtain ⟨vx, sc2, rfl, hvx, hs2⟩ := ev_s_cons hs
      obtain ⟨x0, rfl⟩ := ev_vI hi hvx
      obtain ⟨tgt, ht, k1, k2⟩ := ev_fork_ok h2 hk hle hP hD hS hW hB hL hs2 hvx (show ev_v g (0, 0) = some (.int 0) from rfl)
      exact lv_if_lt hx hb hd ht (fun q => k1 (by simpa [ev_cmp] using q)) (fun q => k2 (by simpa [ev_cmp] using q))
    · cases h2
  · cases h2

def ev_icmp_ge : ev_O := (fun _ t => some (.if_icmp .ge t.1, 3, []), fun _ t S => match S.2.2.1 with
  | y :: x :: st => if ev_isI x = true ∧ ev_isI y = true then ev_fork 3 x y t.1 st S else none
  | _ => none)
theorem ev_icmp_ge_ok : ev_Snd ev_icmp_ge := by
  intro p l e R s m args below meth c cc Q D A g0 P t S i n cs Ss X h1 hd hw h2 hk g ws H locs ls sc hle hR
  obtain ⟨hx, hb, hml, hown, hts, hK, hA, hN, hini, hcC, hcS, hf, hlc, hscr⟩ := X
  obtain ⟨pc, L, st, w, K, ce, sl⟩ := S
  have h1 : some ((.if_icmp .ge t.1 : Instr), (3 : Nat), ([] : List Cond)) = some (i, n, cs) := h1
  cases h1
  unfold ev_icmp_ge at h2
  dsimp only at h2
  split at h2
  · rename_i y x st'
    split at h2
    · rename_i hi
      obtain ⟨hP, hD, hS, hW, hB, hL, hs⟩ := hR
      obtain ⟨vy, sc1, rfl, hvy, hs1⟩ := ev_s_cons hs
      obtain ⟨vx, sc2, rfl, hvx, hs2⟩ := ev_s_cons hs1
      obtain ⟨y0, rfl⟩ := ev_vI hi.2 hvy
      obtain ⟨x0, rfl⟩ := ev_vI hi.1 hvx
      obtain ⟨tgt, ht, k1, k2⟩ := ev_fork_ok h2 hk hle hP hD hS hW hB hL hs2 hvx hvy
      exact lv_icmp_ge hx hb hd ht (fun q => k1 (by simpa [ev_cmp] using q)) (fun q => k2 (by simpa [ev_cmp] using q))
    · cases h2
  · cases h2
def ev_if_ge : ev_O := (fun _ t => some (.ifCond .ge t.1, 3, []), fun _ t S => match S.2.2.1 with
  | x :: st => if ev_isI x = true then ev_fork 3 x (0, 0) t.1 st S else none
  | _ => none)
theorem ev_if_ge_ok : ev_Snd ev_if_ge := by
  intro p l e R s m args below meth c cc Q D A g0 P t S i n cs Ss X h1 hd hw h2 hk g ws H locs ls sc hle hR
  obtain ⟨hx, hb, hml, hown, hts, hK, hA, hN, hini, hcC, hcS, hf, hlc, hscr⟩ := X
  obtain ⟨pc, L, st, w, K, ce, sl⟩ := S
  have h1 : some ((.ifCond .ge t.1 : Instr), (3 : Nat), ([] : List Cond)) = some (i, n, cs) := h1
  cases h1
  unfold ev_if_ge at h2
  dsimp only at h2
  split at h2
  · rename_i x st'
    split at h2
    · rename_i hi
      obtain ⟨hP, hD, hS, hW, hB, hL, hs⟩ := hR
      obtain ⟨vx, sc2, rfl, hvx, hs2⟩ := ev_s_cons hs
      obtain ⟨x0, rfl⟩ := ev_vI hi hvx
      obtain ⟨tgt, ht, k1, k2⟩ := ev_fork_ok h2 hk hle hP hD hS hW hB hL hs2 hvx (show ev_v g (0, 0) = some (.int 0) from rfl)
      exact lv_if_ge hx hb hd ht (fun q => k1 (by simpa [ev_cmp] using q)) (fun q => k2 (by simpa [ev_cmp] using q))
    · cases h2
  · cases h2

def ev_icmp_gt : ev_O := (fun _ t => some (.if_icmp .gt t.1, 3, []), fun _ t S => match S.2.2.1 with
  | y :: x :: st => if ev_isI x = true ∧ ev_isI y = true then ev_fork 4 x y t.1 st S else none
  | _ => none)
theorem ev_icmp_gt_ok : ev_Snd ev_icmp_gt := by
  intro p l e R s m args below meth c cc Q D A g0 P t S i n cs Ss X h1 hd hw h2 hk g ws H locs ls sc hle hR
  obtain ⟨hx, hb, hml, hown, hts, hK, hA, hN, hini, hcC, hcS, hf, hlc, hscr⟩ := X
  obtain ⟨pc, L, st, w, K, ce, sl⟩ := S
  have h1 : some ((.if_icmp .gt t.1 : Instr), (3 : Nat), ([] : List Cond)) = some (i, n, cs) := h1
  cases h1
  unfold ev_icmp_gt at h2
  dsimp only at h2
  split at h2
  · rename_i y x st'
    split at h2
    · rename_i hi
      obtain ⟨hP, hD, hS, hW, hB, hL, hs⟩ := hR
      obtain ⟨vy, sc1, rfl, hvy, hs1⟩ := ev_s_cons hs
      obtain ⟨vx, sc2, rfl, hvx, hs2⟩ := ev_s_cons hs1
      obtain ⟨y0, rfl⟩ := ev_vI hi.2 hvy
      obtain ⟨x0, rfl⟩ := ev_vI hi.1 hvx
      obtain ⟨tgt, ht, k1, k2⟩ := ev_fork_ok h2 hk hle hP hD hS hW hB hL hs2 hvx hvy
      exact lv_icmp_gt hx hb hd ht (fun q => k1 (by simpa [ev_cmp] using q)) (fun q => k2 (by simpa [ev_cmp] using q))
    · cases h2
  · cases h2
def ev_if_gt : ev_O := (fun _ t => some (.ifCond .gt t.1, 3, []), fun _ t S => match S.2.2.1 with
  | x :: st => if ev_isI x = true then ev_fork 4 x (0, 0) t.1 st S else none
  | _ => none)
theorem ev_if_gt_ok : ev_Snd ev_if_gt := by
  intro p l e R s m args below meth c cc Q D A g0 P t S i n cs Ss X h1 hd hw h2 hk g ws H locs ls sc hle hR
  obtain ⟨hx, hb, hml, hown, hts, hK, hA, hN, hini, hcC, hcS, hf, hlc, hscr⟩ := X
  obtain ⟨pc, L, st, w, K, ce, sl⟩ := S
  have h1 : some ((.ifCond .gt t.1 : Instr), (3 : Nat), ([] : List Cond)) = some (i, n, cs) := h1
  cases h1
  unfold ev_if_gt at h2
  dsimp only at h2
  split at h2
  · rename_i x st'
    split at h2
    · rename_i hi
      obtain ⟨hP, hD, hS, hW, hB, hL, hs⟩ := hR
      obtain ⟨vx, sc2, rfl, hvx, hs2⟩ := ev_s_cons hs
      obtain ⟨x0, rfl⟩ := ev_vI hi hvx
      obtain ⟨tgt, ht, k1, k2⟩ := ev_fork_ok h2 hk hle hP hD hS hW hB hL hs2 hvx (show ev_v g (0, 0) = some (.int 0) from rfl)
      exact lv_if_gt hx hb hd ht (fun q => k1 (by simpa [ev_cmp] using q)) (fun q => k2 (by simpa [ev_cmp] using q))
    · cases h2
  · cases h2

def ev_icmp_le : ev_O := (fun _ t => some (.if_icmp .le t.1, 3, []), fun _ t S => match S.2.2.1 with
  | y :: x :: st => if ev_isI x = true ∧ ev_isI y = true then ev_fork 5 x y t.1 st S else none
  | _ => none)
theorem ev_icmp_le_ok : ev_Snd ev_icmp_le := by
  intro p l e R s m args below meth c cc Q D A g0 P t S i n cs Ss X h1 hd hw h2 hk g ws H locs ls sc hle hR
  obtain ⟨hx, hb, hml, hown, hts, hK, hA, hN, hini, hcC, hcS, hf, hlc, hscr⟩ := X
  obtain ⟨pc, L, st, w, K, ce, sl⟩ := S
  have h1 : some ((.if_icmp .le t.1 : Instr), (3 : Nat), ([] : List Cond)) = some (i, n, cs) := h1
  cases h1
  unfold ev_icmp_le at h2
  dsimp only at h2
  split at h2
  · rename_i y x st'
    split at h2
    · rename_i hi
      obtain ⟨hP, hD, hS, hW, hB, hL, hs⟩ := hR
      obtain ⟨vy, sc1, rfl, hvy, hs1⟩ := ev_s_cons hs
      obtain ⟨vx, sc2, rfl, hvx, hs2⟩ := ev_s_cons hs1
      obtain ⟨y0, rfl⟩ := ev_vI hi.2 hvy
      obtain ⟨x0, rfl⟩ := ev_vI hi.1 hvx
      obtain ⟨tgt, ht, k1, k2⟩ := ev_fork_ok h2 hk hle hP hD hS hW hB hL hs2 hvx hvy
      exact lv_icmp_le hx hb hd ht (fun q => k1 (by simpa [ev_cmp] using q)) (fun q => k2 (by simpa [ev_cmp] using q))
    · cases h2
  · cases h2
def ev_if_le : ev_O := (fun _ t => some (.ifCond .le t.1, 3, []), fun _ t S => match S.2.2.1 with
  | x :: st => if ev_isI x = true then ev_fork 5 x (0, 0) t.1 st S else none
  | _ => none)
theorem ev_if_le_ok : ev_Snd ev_if_le := by
  intro p l e R s m args below meth c cc Q D A g0 P t S i n cs Ss X h1 hd hw h2 hk g ws H locs ls sc hle hR
  obtain ⟨hx, hb, hml, hown, hts, hK, hA, hN, hini, hcC, hcS, hf, hlc, hscr⟩ := X
  obtain ⟨pc, L, st, w, K, ce, sl⟩ := S
  have h1 : some ((.ifCond .le t.1 : Instr), (3 : Nat), ([] : List Cond)) = some (i, n, cs) := h1
  cases h1
  unfold ev_if_le at h2
  dsimp only at h2
  split at h2
  · rename_i x st'
    split at h2
    · rename_i hi
      obtain ⟨hP, hD, hS, hW, hB, hL, hs⟩ := hR
      obtain ⟨vx, sc2, rfl, hvx, hs2⟩ := ev_s_cons hs
      obtain ⟨x0, rfl⟩ := ev_vI hi hvx
      obtain ⟨tgt, ht, k1, k2⟩ := ev_fork_ok h2 hk hle hP hD hS hW hB hL hs2 hvx (show ev_v g (0, 0) = some (.int 0) from rfl)
      exact lv_if_le hx hb hd ht (fun q => k1 (by simpa [ev_cmp] using q)) (fun q => k2 (by simpa [ev_cmp] using q))
    · cases h2
  · cases h2

def ev_goto : ev_O := (fun _ t => some (.goto t.1, 3, []), fun _ t S => if 0 ≤ (S.1 : Int) + t.1 then some [(((S.1 : Int) + t.1).toNat, S.2)] else none)
theorem ev_goto_ok : ev_Snd ev_goto := by
  intro p l e R s m args below meth c cc Q D A g0 P t S i n cs Ss X h1 hd hw h2 hk g ws H locs ls sc hle hR
  obtain ⟨hx, hb, hml, hown, hts, hK, hA, hN, hini, hcC, hcS, hf, hlc, hscr⟩ := X
  obtain ⟨pc, L, st, w, K, ce, sl⟩ := S
  have h1 : some ((.goto t.1 : Instr), (3 : Nat), ([] : List Cond)) = some (i, n, cs) := h1
  cases h1
  unfold ev_goto at h2
  dsimp only at h2
  split at h2
  · rename_i h0
    cases h2
    exact lv_goto (tgt := ((pc : Int) + t.1).toNat) hx hb hd (by omega) (hk _ (List.mem_singleton.mpr rfl) g ws H locs ls sc hle hR)
  · cases h2
/-! a switch over a row of numbers -/
def ev_swV (b : Int × Int) (lo hi : Int) (offs : List Int) (dflt : Int) (k : Nat) (st : List ev_A) (S : ev_S) : List ev_S :=
  (List.range offs.length).filterMap (fun (j : Nat) => if b.1 ≤ lo + (j : Int) ∧ lo + (j : Int) ≤ b.2 then some (ev_setK S ((S.1 : Int) + offs.getD j 0).toNat st (S.2.2.2.2.1.set k (lo + (j : Int), lo + (j : Int)))) else none)
  ++ [ev_setK S ((S.1 : Int) + dflt).toNat st (S.2.2.2.2.1.set k (b.1, min b.2 (lo - 1))), ev_setK S ((S.1 : Int) + dflt).toNat st (S.2.2.2.2.1.set k (max b.1 (hi + 1), b.2))].filter (fun S' => match S'.2.2.2.2.1[k]? with
    | some q => decide (q.1 ≤ q.2)
    | none => true)
def ev_sw : ev_O := (fun _ t => match t.2.2.2 with
  | len :: offs => some (.tableswitch t.1 t.2.1 t.2.2.1 offs.toArray, len.toNat, [])
  | [] => none, fun _ t S => match t.2.2.2, S.2.2.1 with
  | _ :: offs, x :: st =>
    if ev_isI x = true ∧ t.2.2.1 - t.2.1 + 1 = (offs.length : Int) ∧ 0 ≤ (S.1 : Int) + t.1 ∧ offs.all (fun o => decide (0 ≤ (S.1 : Int) + o)) = true then
      (if x.1 = 0 then
        (if (Int32.ofInt x.2).toInt < t.2.1 ∨ t.2.2.1 < (Int32.ofInt x.2).toInt then some [((((S.1 : Int) + t.1).toNat), S.2.1, st, S.2.2.2)] else some [((((S.1 : Int) + offs.getD ((Int32.ofInt x.2).toInt - t.2.1).toNat 0).toNat), S.2.1, st, S.2.2.2)])
       else match S.2.2.2.2.1[x.2.toNat]? with
        | some b => some (ev_swV b t.2.1 t.2.2.1 offs t.1 x.2.toNat st S)
        | none => none)
    else none
  | _, _ => none)
theorem ev_sw_ok : ev_Snd ev_sw := by
  intro p l e R s m args below meth c cc Q D A g0 P t S i n cs Ss X h1 hd hw h2 hk g ws H locs ls sc hle hR
  obtain ⟨hx, hb, hml, hown, hts, hK, hA, hN, hini, hcC, hcS, hf, hlc, hscr⟩ := X
  obtain ⟨pc, L, st, w, K, ce, sl⟩ := S
  obtain ⟨dflt, lo, hi, offs0⟩ := t
  cases offs0 with
  | nil => cases h1
  | cons len offs =>
    have h1 : some ((.tableswitch dflt lo hi offs.toArray : Instr), len.toNat, ([] : List Cond)) = some (i, n, cs) := h1
    cases h1
    unfold ev_sw at h2
    dsimp only at h2
    cases st with
    | nil => cases h2
    | cons x st' =>
      dsimp only at h2
      split at h2
      · rename_i hi0
        obtain ⟨hI, hlen, hd0, hall⟩ := hi0
        have hin : ∀ j : Nat, j < offs.length → ∃ o : Int, offs[j]? = some o ∧ offs.getD j 0 = o ∧ 0 ≤ (pc : Int) + o := by
          intro j hj
          refine ⟨offs[j], List.getElem?_eq_getElem hj, by simp [List.getD, List.getElem?_eq_getElem hj], ?_⟩
          have := List.all_eq_true.mp hall offs[j] (List.getElem_mem hj)
          simpa using this
        obtain ⟨hP, hD, hS, hW, hB, hL, hs⟩ := hR
        obtain ⟨vx, sc2, rfl, hvx, hs2⟩ := ev_s_cons hs
        obtain ⟨x0, rfl⟩ := ev_vI hI hvx
        have hin2 : ¬ x0.toInt < lo → ¬ hi < x0.toInt → ∃ o : Int, offs.toArray[(x0.toInt - lo).toNat]? = some o ∧ offs.getD (x0.toInt - lo).toNat 0 = o ∧ (pc : Int) + o = (((pc : Int) + o).toNat : Int) := by
          intro q1 q2
          obtain ⟨o, a1, a2, a3⟩ := hin (x0.toInt - lo).toNat (by omega)
          exact ⟨o, by simpa using a1, a2, by omega⟩
        split at h2
        · rename_i hz
          obtain ⟨xt, xn⟩ := x
          have hz : xt = 0 := hz
          subst hz
          have ex : Int32.ofInt xn = x0 := Value.int.inj (Option.some.inj hvx)
          dsimp only at h2
          rw [ex] at h2
          split at h2
          · rename_i hq
            cases h2
            exact lv_tableOut (tgt := ((pc : Int) + dflt).toNat) hx hb hd hq (by omega) (hk _ (List.mem_singleton.mpr rfl) g ws H locs ls sc2 hle ⟨hP, hD, hS, hW, hB, hL, hs2⟩)
          · rename_i hq
            cases h2
            have q1 : ¬ x0.toInt < lo := fun z => hq (Or.inl z)
            have q2 : ¬ hi < x0.toInt := fun z => hq (Or.inr z)
            obtain ⟨o, a1, a2, a3⟩ := hin2 q1 q2
            exact lv_tableIn hx hb hd q1 q2 a1 a3 (by
              have := hk _ (List.mem_singleton.mpr rfl) g ws H locs ls sc2 hle ⟨hP, hD, hS, hW, hB, hL, hs2⟩
              dsimp only at this
              rw [a2] at this
              exact this)
        · rename_i hz
          have h3 : x.1 = 3 := by
            simp only [ev_isI, Bool.or_eq_true, beq_iff_eq] at hI
            rcases hI with q | q
            · exact absurd q hz
            · exact q
          split at h2
          · rename_i b hb0
            cases h2
            have hE := ev_var h3 hvx
            have hbd := hB.2 _ b x0 hb0 hE
            have hkl : x.2.toNat < K.length := (List.getElem?_eq_some_iff.mp hb0).1
            by_cases q1 : x0.toInt < lo
            · refine lv_tableOut (tgt := ((pc : Int) + dflt).toNat) hx hb hd (Or.inl q1) (by omega) (hk (ev_setK (pc, L, x :: st', w, K, ce, sl) ((pc : Int) + dflt).toNat st' (K.set x.2.toNat (b.1, min b.2 (lo - 1)))) (List.mem_append_right _ (List.mem_filter.mpr ⟨List.mem_cons_self, ?_⟩)) g ws H locs ls sc2 hle ⟨hP, hD, hS, hW, ev_b_set hB hE (by dsimp only; omega), hL, hs2⟩)
              simp only [ev_setK, List.getElem?_set_self hkl, decide_eq_true_eq]
              omega
            · by_cases q2 : hi < x0.toInt
              · refine lv_tableOut (tgt := ((pc : Int) + dflt).toNat) hx hb hd (Or.inr q2) (by omega) (hk (ev_setK (pc, L, x :: st', w, K, ce, sl) ((pc : Int) + dflt).toNat st' (K.set x.2.toNat (max b.1 (hi + 1), b.2))) (List.mem_append_right _ (List.mem_filter.mpr ⟨List.mem_cons_of_mem _ List.mem_cons_self, ?_⟩)) g ws H locs ls sc2 hle ⟨hP, hD, hS, hW, ev_b_set hB hE (by dsimp only; omega), hL, hs2⟩)
                simp only [ev_setK, List.getElem?_set_self hkl, decide_eq_true_eq]
                omega
              · obtain ⟨o, a1, a2, a3⟩ := hin2 q1 q2
                have hj : lo + ((x0.toInt - lo).toNat : Int) = x0.toInt := by omega
                have hmem : ev_setK (pc, L, x :: st', w, K, ce, sl) ((pc : Int) + o).toNat st' (K.set x.2.toNat (x0.toInt, x0.toInt)) ∈ ev_swV b lo hi offs dflt x.2.toNat st' (pc, L, x :: st', w, K, ce, sl) := by
                  refine List.mem_append_left _ (List.mem_filterMap.mpr ⟨(x0.toInt - lo).toNat, List.mem_range.mpr (by omega), ?_⟩)
                  rw [hj, if_pos hbd, a2]
                exact lv_tableIn hx hb hd q1 q2 a1 a3 (hk _ hmem g ws H locs ls sc2 hle ⟨hP, hD, hS, hW, ev_b_set hB hE (by dsimp only; omega), hL, hs2⟩)
          · cases h2
      · cases h2
/-! the words of the classes' fields among the tables' -/
theorem lw_good_ps {ws : List Cond} (ps : List Nat) (hp : ws = ps.filterMap lw_at) (h : ws.all goodWord = true) : ∀ w ∈ ws, w ∈ lw_good := by
  intro w hw
  have h1 := List.all_eq_true.mp h w hw
  rw [hp] at hw
  obtain ⟨i, -, hi⟩ := List.mem_filterMap.mp hw
  exact lw_good_at i (lw_at_ok hi) h1
set_option maxRecDepth 100000 in
theorem ev_in0 : ∀ w ∈ u_ws RX0 TX0 5, w ∈ lw_good := lw_good_ps [374, 376, 378, 380, 382] (by decide +kernel) (by decide +kernel)
set_option maxRecDepth 100000 in
theorem ev_in1 : ∀ w ∈ u_ws RX1 TX1 3, w ∈ lw_good := lw_good_ps [435, 437, 439] (by decide +kernel) (by decide +kernel)
set_option maxRecDepth 100000 in
theorem ev_in2 : ∀ w ∈ u_ws RX2 TX2 4, w ∈ lw_good := lw_good_ps [322, 324, 326, 328] (by decide +kernel) (by decide +kernel)
set_option maxRecDepth 100000 in
theorem ev_in3 : ∀ w ∈ u_ws RX3 TX3 5, w ∈ lw_good := lw_good_ps [347, 349, 351, 353, 355] (by decide +kernel) (by decide +kernel)
set_option maxRecDepth 100000 in
theorem ev_in4 : ∀ w ∈ u_ws RX4 TX4 14, w ∈ lw_good := lw_good_ps [165, 167, 169, 171, 173, 175, 177, 179, 181, 183, 185, 187, 189, 191] (by decide +kernel) (by decide +kernel)
set_option maxRecDepth 100000 in
theorem ev_in5 : ∀ w ∈ u_ws RX5 TX5 3, w ∈ lw_good := lw_good_ps [416, 418, 420] (by decide +kernel) (by decide +kernel)
set_option maxRecDepth 100000 in
theorem ev_in6 : ∀ w ∈ u_ws RX6 TX6 3, w ∈ lw_good := lw_good_ps [396, 398, 400] (by decide +kernel) (by decide +kernel)
set_option maxRecDepth 100000 in
theorem ev_in7 : ∀ w ∈ u_ws RX7 TX7 19, w ∈ lw_good := lw_good_ps [267, 269, 271, 273, 275, 277, 279, 281, 283, 285, 287, 289, 291, 293, 295, 297, 299, 301, 303] (by decide +kernel) (by decide +kernel)
set_option maxRecDepth 100000 in
theorem ev_in8 : ∀ w ∈ u_ws RX8 TX8 15, w ∈ lw_good := lw_good_ps [457, 459, 461, 463, 465, 467, 469, 471, 473, 475, 477, 479, 481, 483, 485] (by decide +kernel) (by decide +kernel)
set_option maxRecDepth 100000 in
theorem ev_in9 : ∀ w ∈ u_ws RX9 TX9 35, w ∈ lw_good := lw_good_ps [1338, 1340, 1342, 1344, 1346, 1348, 1350, 1352, 1354, 1356, 1358, 1360, 1362, 1364, 1366, 1368, 1370, 1372, 1374, 1376, 1378, 1380, 1382, 1384, 1386, 1388, 1390, 1392, 1394, 1396, 1398, 1400, 1402, 1404, 1406] (by decide +kernel) (by decide +kernel)
def ev_tyl : List (Nat → FieldType) := [tyX0, tyX1, tyX2, tyX3, tyX4, tyX5, tyX6, tyX7, tyX8, tyX9]
/-- what is known of a class by its number -/
def ev_cok (r : vw_C) (ty : Nat → FieldType) : Prop := (∀ w ∈ u_ws r.1 r.2.1 r.2.2, w ∈ lw_good) ∧ (∀ k, k < r.2.2 → parseFieldDescriptor (r.2.1 k).2.2.1 = some (ty k)) ∧ (∀ a, a < r.2.2 → ∀ b, b < r.2.2 → a ≠ b → (r.2.1 a).2.1 ≠ (r.2.1 b).2.1) ∧ r.2.2 < 100
theorem ev_cls : ∀ (ci : Nat) (r : vw_C) (ty : Nat → FieldType), vwCl[ci]? = some r → ev_tyl[ci]? = some ty → ev_cok r ty
  | 0, r, ty, h1, h2 => by cases h1; cases h2; exact ⟨ev_in0, tyX0_ok, nmX0, by decide⟩
  | 1, r, ty, h1, h2 => by cases h1; cases h2; exact ⟨ev_in1, tyX1_ok, nmX1, by decide⟩
  | 2, r, ty, h1, h2 => by cases h1; cases h2; exact ⟨ev_in2, tyX2_ok, nmX2, by decide⟩
  | 3, r, ty, h1, h2 => by cases h1; cases h2; exact ⟨ev_in3, tyX3_ok, nmX3, by decide⟩
  | 4, r, ty, h1, h2 => by cases h1; cases h2; exact ⟨ev_in4, tyX4_ok, nmX4, by decide⟩
  | 5, r, ty, h1, h2 => by cases h1; cases h2; exact ⟨ev_in5, tyX5_ok, nmX5, by decide⟩
  | 6, r, ty, h1, h2 => by cases h1; cases h2; exact ⟨ev_in6, tyX6_ok, nmX6, by decide⟩
  | 7, r, ty, h1, h2 => by cases h1; cases h2; exact ⟨ev_in7, tyX7_ok, nmX7, by decide⟩
  | 8, r, ty, h1, h2 => by cases h1; cases h2; exact ⟨ev_in8, tyX8_ok, nmX8, by decide⟩
  | 9, r, ty, h1, h2 => by cases h1; cases h2; exact ⟨ev_in9, tyX9_ok, nmX9, by decide⟩
  | n + 10, r, ty, h1, h2 => by cases h1
/-! cells -/
theorem ev_ref1 {s : State} {g : ev_G} {w : List ev_C} {ws : va_W} {a : ev_A} {v : Value} {cl : ev_C} (hW : ev_w s g w ws) (ht : a.1 = 1) (hv : ev_v g a = some v) (hc : w[a.2.toNat]? = some cl) : ∃ ad x, v = .ref ad ∧ ws[a.2.toNat]? = some (ad, x) ∧ ev_c s g cl x := by
  obtain ⟨t, n⟩ := a
  have ht : t = 1 := ht
  subst ht
  simp only [ev_v] at hv
  cases hq : g.1[n.toNat]? with
  | none => simp [hq] at hv
  | some ad =>
    simp only [hq, Option.map_some] at hv
    cases hv
    rw [hW.1, List.getElem?_map] at hq
    cases hz : ws[n.toNat]? with
    | none => simp [hz] at hq
    | some z =>
      simp only [hz, Option.map_some] at hq
      cases hq
      exact ⟨z.1, z.2, rfl, rfl, hW.2.2 _ cl z hc hz⟩
theorem ev_w_set {s : State} {g : ev_G} {w : List ev_C} {ws : va_W} {q ad : Nat} {x0 x : va_E} {cl : ev_C} (hW : ev_w s g w ws) (hq : ws[q]? = some (ad, x0)) (hc : ev_c s g cl x) : ev_w s g (w.set q cl) (ws.set q (ad, x)) := by
  have hl := (List.getElem?_eq_some_iff.mp hq).1
  refine ⟨?_, by rw [List.length_set, List.length_set]; exact hW.2.1, fun k c z h1 h2 => ?_⟩
  · rw [hW.1]
    apply List.ext_getElem?
    intro j
    rw [List.getElem?_map, List.getElem?_map]
    by_cases hj : j = q
    · subst hj
      rw [List.getElem?_set_self hl, hq]
      rfl
    · rw [List.getElem?_set_ne (Ne.symm hj)]
  · by_cases hk : k = q
    · subst hk
      have hl2 : k < w.length := by rw [hW.2.1]; exact hl
      rw [List.getElem?_set_self hl2] at h1
      rw [List.getElem?_set_self hl] at h2
      cases h1
      cases h2
      exact hc
    · rw [List.getElem?_set_ne (Ne.symm hk)] at h1 h2
      exact hW.2.2 k c z h1 h2
theorem ev_w_push {s : State} {g : ev_G} {w : List ev_C} {ws : va_W} {ad : Nat} {x : va_E} {cl : ev_C} (hW : ev_w s g w ws) (hc : ev_c s (g.1 ++ [ad], g.2.1, g.2.2) cl x) : ev_le g (g.1 ++ [ad], g.2.1, g.2.2) ∧ ev_w s (g.1 ++ [ad], g.2.1, g.2.2) (w ++ [cl]) (ws ++ [(ad, x)]) ∧ ev_v (g.1 ++ [ad], g.2.1, g.2.2) (1, (w.length : Int)) = some (.ref ad) := by
  have hle : ev_le g (g.1 ++ [ad], g.2.1, g.2.2) := ⟨⟨[ad], rfl⟩, rfl, ⟨[], by simp⟩⟩
  have hlg : g.1.length = w.length := by rw [hW.1, List.length_map, hW.2.1]
  refine ⟨hle, ⟨by rw [List.map_append]; dsimp only; rw [hW.1]; rfl, by rw [List.length_append, List.length_append, hW.2.1]; rfl, fun k c z h1 h2 => ?_⟩, ?_⟩
  · by_cases hk : k < w.length
    · rw [List.getElem?_append_left hk] at h1
      rw [List.getElem?_append_left (by rw [← hW.2.1]; exact hk)] at h2
      exact ev_c_le hle (hW.2.2 k c z h1 h2)
    · rw [List.getElem?_append_right (by omega)] at h1
      rw [List.getElem?_append_right (by have := hW.2.1; omega)] at h2
      have hz : k - w.length < 1 := (List.getElem?_eq_some_iff.mp h1).1
      have h3 : k - w.length = 0 := by omega
      have h4 : k - ws.length = 0 := by have := hW.2.1; omega
      rw [h3] at h1
      rw [h4] at h2
      cases h1
      cases h2
      exact hc
  · simp [ev_v, ← hlg]
/-! fields -/
def ev_fc (own : String) (idx : Nat) (ci k : Nat) : Option (List Cond) := match vwCl[ci]? with
  | some r => some [.fieldLink own idx (r.2.1 k).1 (r.2.1 k).2.1 (r.2.1 k).2.2.1]
  | none => none
def ev_get : ev_O := (fun P t => match vwCl[t.1.toNat]? with
  | some r => some (.getfield t.2.2.1.toNat, 3, [.fieldLink P.2.2.2.1 t.2.2.1.toNat (r.2.1 t.2.1.toNat).1 (r.2.1 t.2.1.toNat).2.1 (r.2.1 t.2.1.toNat).2.2.1])
  | none => none, fun _ t S => match S.2.2.1 with
  | x :: st => (match S.2.2.2.1[x.2.toNat]?, vwCl[t.1.toNat]? with
    | some cl, some r => if x.1 = 1 ∧ cl.1 = t.1.toNat ∧ t.2.1.toNat < r.2.2 then (match cl.2[t.2.1.toNat]? with
      | some a => some [ev_adv S 3 (a :: st)]
      | none => none) else none
    | _, _ => none)
  | [] => none)
theorem ev_get_ok : ev_Snd ev_get := by
  intro p l e R s m args below meth c cc Q D A g0 P t S i n cs Ss X h1 hd hw h2 hk g ws H locs ls sc hle hR
  obtain ⟨hx, hb, hml, hown, hts, hK, hA, hN, hini, hcC, hcS, hf, hlc, hscr⟩ := X
  obtain ⟨pc, L, st, w, K, ce, sl⟩ := S
  obtain ⟨t1, t2, t3, t4⟩ := t
  unfold ev_get at h1 h2
  dsimp only at h1 h2
  cases hr : vwCl[t1.toNat]? with
  | none => simp [hr] at h1
  | some r =>
    rw [hr] at h1 h2
    dsimp only at h1
    cases h1
    cases st with
    | nil => cases h2
    | cons x st' =>
      dsimp only at h2
      split at h2
      · rename_i cl r' hcl hr'
        cases hr'
        split at h2
        · rename_i hc
          obtain ⟨hc1, hc2, hc3⟩ := hc
          split at h2
          · rename_i a ha
            cases h2
            obtain ⟨hP, hD, hS, hW, hB, hL, hs⟩ := hR
            obtain ⟨vx, sc2, rfl, hvx, hs2⟩ := ev_s_cons hs
            obtain ⟨ad, x0, rfl, hws, hcc⟩ := ev_ref1 hW hc1 hvx hcl
            cases x0 with
            | inl z =>
              obtain ⟨tt, b1, b2, -⟩ := hcc
              have : t1.toNat < 10 := (List.getElem?_eq_some_iff.mp hr).1
              omega
            | inr o =>
              obtain ⟨ci, fs⟩ := o
              obtain ⟨b1, b2, b3, b4⟩ := hcc
              dsimp only at b1 b3 b4
              obtain ⟨v, d1, d2⟩ := b4 _ a ha
              have hci : vwCl[ci]? = some r := by rw [← b1, hc2]; exact hr
              obtain ⟨ty, hty⟩ : ∃ ty, ev_tyl[ci]? = some ty := ⟨_, List.getElem?_eq_getElem (show ci < ev_tyl.length from (List.getElem?_eq_some_iff.mp hci).1)⟩
              exact va_get hx hb hts (ev_cls ci r ty hci hty).1 hown hK hP _ hws hci t2.toNat hc3 (hts _ (hw _ (List.mem_singleton.mpr rfl))) (fun _ h => h) d2 hd (hk _ (List.mem_singleton.mpr rfl) g ws H locs ls _ hle ⟨hP, hD, hS, hW, hB, hL, d1, hs2⟩)
          · cases h2
        · cases h2
      · cases h2
/-- a value that a field of this type may hold -/
def ev_fit (ty : FieldType) (a : ev_A) : Bool := match ty with
  | .int => ev_isI a
  | .long => ev_isL a
  | .boolean => a.1 == 0 && (a.2 == 0 || a.2 == 1)
  | .char => a.1 == 0 && (decide (0 ≤ a.2) && decide (a.2.toNat < 65536))
  | .byte => a.1 == 0 && a.2 == 0
  | .object _ => a.1 == 1 || a.1 == 2 || a.1 == 5
  | .array _ => a.1 == 1 || a.1 == 2 || a.1 == 5
  | _ => false
theorem ev_vN {g : ev_G} {a : ev_A} {v : Value} (h : (a.1 == 1 || a.1 == 2 || a.1 == 5) = true) (hv : ev_v g a = some v) : v = .null ∨ ∃ x : Nat, v = .ref x := by
  by_cases h2 : a.1 = 2
  · obtain ⟨t, n⟩ := a
    have h2 : t = 2 := h2
    subst h2
    exact Or.inl (Option.some.inj hv).symm
  · refine Or.inr (ev_vR ?_ hv)
    simp only [Bool.or_eq_true, beq_iff_eq] at h
    simp only [ev_isR, Bool.or_eq_true, beq_iff_eq]
    rcases h with (h | h) | h
    · exact Or.inl h
    · exact absurd h h2
    · exact Or.inr h
theorem ev_fit_ok {ty : FieldType} {a : ev_A} {g : ev_G} {v : Value} (h : ev_fit ty a = true) (hv : ev_v g a = some v) : narrow ty v = v ∧ fits ty v = true := by
  unfold ev_fit at h
  split at h
  · obtain ⟨x, rfl⟩ := ev_vI h hv
    exact ⟨rfl, rfl⟩
  · obtain ⟨x, rfl⟩ := ev_vL h hv
    exact ⟨rfl, rfl⟩
  · obtain ⟨t, n⟩ := a
    simp only [Bool.and_eq_true, Bool.or_eq_true, beq_iff_eq] at h
    obtain ⟨rfl, h⟩ := h
    have hv := Option.some.inj hv
    rcases h with rfl | rfl
    · subst hv
      exact ⟨by decide, by decide⟩
    · subst hv
      exact ⟨by decide, by decide⟩
  · obtain ⟨t, n⟩ := a
    simp only [Bool.and_eq_true, beq_iff_eq, decide_eq_true_eq] at h
    obtain ⟨rfl, h0, h1⟩ := h
    have hv := Option.some.inj hv
    subst hv
    dsimp only at h0 h1 ⊢
    have e : Int32.ofInt n = nI n.toNat := by
      have : n = ((n.toNat : Nat) : Int) := by omega
      rw [this]
      rfl
    rw [e]
    exact pk_charN h1
  · obtain ⟨t, n⟩ := a
    simp only [Bool.and_eq_true, beq_iff_eq] at h
    obtain ⟨rfl, rfl⟩ := h
    have hv := Option.some.inj hv
    subst hv
    exact ⟨by decide, by decide⟩
  · rcases ev_vN h hv with rfl | ⟨x, rfl⟩ <;> exact ⟨rfl, rfl⟩
  · rcases ev_vN h hv with rfl | ⟨x, rfl⟩ <;> exact ⟨rfl, rfl⟩
  · cases h

def ev_put : ev_O := (fun P t => match vwCl[t.1.toNat]? with
  | some r => some (.putfield t.2.2.1.toNat, 3, [.fieldLink P.2.2.2.1 t.2.2.1.toNat (r.2.1 t.2.1.toNat).1 (r.2.1 t.2.1.toNat).2.1 (r.2.1 t.2.1.toNat).2.2.1])
  | none => none, fun P t S => match S.2.2.1 with
  | a :: x :: st => (match S.2.2.2.1[x.2.toNat]?, vwCl[t.1.toNat]?, ev_tyl[t.1.toNat]? with
    | some cl, some r, some ty => if x.1 = 1 ∧ cl.1 = t.1.toNat ∧ t.2.1.toNat < r.2.2 ∧ t.2.1.toNat < cl.2.length ∧ ev_fit (ty t.2.1.toNat) a = true ∧ ((r.2.1 t.2.1.toNat).2.2.2 = false) then some [(S.1 + 3, S.2.1, st, S.2.2.2.1.set x.2.toNat (cl.1, cl.2.set t.2.1.toNat a), S.2.2.2.2)] else none
    | _, _, _ => none)
  | _ => none)
theorem ev_put_ok : ev_Snd ev_put := by
  intro p l e R s m args below meth c cc Q D A g0 P t S i n cs Ss X h1 hd hw h2 hk g ws H locs ls sc hle hR
  obtain ⟨hx, hb, hml, hown, hts, hK, hA, hN, hini, hcC, hcS, hf, hlc, hscr⟩ := X
  obtain ⟨pc, L, st, w, K, ce, sl⟩ := S
  obtain ⟨t1, t2, t3, t4⟩ := t
  unfold ev_put at h1 h2
  dsimp only at h1 h2
  cases hr : vwCl[t1.toNat]? with
  | none => simp [hr] at h1
  | some r =>
    rw [hr] at h1 h2
    dsimp only at h1
    cases h1
    split at h2
    · rename_i a x st'
      split at h2
      · rename_i cl r' ty hcl hr' hty
        cases hr'
        split at h2
        · rename_i hc
          obtain ⟨hc1, hc2, hc3, hlen, hft, hfin⟩ := hc
          cases h2
          obtain ⟨hP, hD, hS, hW, hB, hL, hs⟩ := hR
          obtain ⟨va, sc1, rfl, hva, hs1⟩ := ev_s_cons hs
          obtain ⟨vx, sc2, rfl, hvx, hs2⟩ := ev_s_cons hs1
          obtain ⟨ad, x0, rfl, hws, hcc⟩ := ev_ref1 hW hc1 hvx hcl
          cases x0 with
          | inl z =>
            obtain ⟨tt, b1, b2, -⟩ := hcc
            have : t1.toNat < 10 := (List.getElem?_eq_some_iff.mp hr).1
            omega
          | inr o =>
            obtain ⟨ci, fs⟩ := o
            obtain ⟨b1, b2, b3, b4⟩ := hcc
            dsimp only at b1 b3 b4
            have hci : vwCl[ci]? = some r := by rw [← b1, hc2]; exact hr
            have hty : ev_tyl[ci]? = some ty := by rw [← b1, hc2]; exact hty
            obtain ⟨k1, k2, k3, -⟩ := ev_cls ci r ty hci hty
            obtain ⟨hn, hfit⟩ := ev_fit_ok hft hva
            refine va_put hx hb hts k1 ty k2 k3 hown hK hP hD hS _ hws hci t2.toNat hc3 (hts _ (hw _ (List.mem_singleton.mpr rfl))) (fun _ h => h) hfin (k2 _ hc3) hn hfit (by rw [b3]; exact hlen) hd (fun H1 locs1 hP1 hD1 hS1 => hk _ (List.mem_singleton.mpr rfl) g _ H1 locs1 ls _ hle ⟨hP1, hD1, hS1, ev_w_set hW hws ⟨b1, b2, by rw [List.length_set, List.length_set]; exact b3, fun j a' hj => ?_⟩, hB, hL, hs2⟩)
            dsimp only at hj ⊢
            by_cases hjk : j = t2.toNat
            · subst hjk
              rw [List.getElem?_set_self hlen] at hj
              cases hj
              exact ⟨va, hva, List.getElem?_set_self (by rw [b3]; exact hlen)⟩
            · rw [List.getElem?_set_ne (Ne.symm hjk)] at hj
              obtain ⟨v, d1, d2⟩ := b4 j a' hj
              exact ⟨v, d1, by rw [List.getElem?_set_ne (Ne.symm hjk)]; exact d2⟩
        · cases h2
      · cases h2
    · cases h2

def ev_putF : ev_O := (fun P t => match vwCl[t.1.toNat]? with
  | some r => some (.putfield t.2.2.1.toNat, 3, [.fieldLink P.2.2.2.1 t.2.2.1.toNat (r.2.1 t.2.1.toNat).1 (r.2.1 t.2.1.toNat).2.1 (r.2.1 t.2.1.toNat).2.2.1])
  | none => none, fun P t S => match S.2.2.1 with
  | a :: x :: st => (match S.2.2.2.1[x.2.toNat]?, vwCl[t.1.toNat]?, ev_tyl[t.1.toNat]? with
    | some cl, some r, some ty => if x.1 = 1 ∧ cl.1 = t.1.toNat ∧ t.2.1.toNat < r.2.2 ∧ t.2.1.toNat < cl.2.length ∧ ev_fit (ty t.2.1.toNat) a = true ∧ ((r.2.1 t.2.1.toNat).2.2.2 = true ∧ P.2.2.1 = true ∧ (r.2.1 t.2.1.toNat).1 = P.2.2.2.1) then some [(S.1 + 3, S.2.1, st, S.2.2.2.1.set x.2.toNat (cl.1, cl.2.set t.2.1.toNat a), S.2.2.2.2)] else none
    | _, _, _ => none)
  | _ => none)
theorem ev_putF_ok : ev_Snd ev_putF := by
  intro p l e R s m args below meth c cc Q D A g0 P t S i n cs Ss X h1 hd hw h2 hk g ws H locs ls sc hle hR
  obtain ⟨hx, hb, hml, hown, hts, hK, hA, hN, hini, hcC, hcS, hf, hlc, hscr⟩ := X
  obtain ⟨pc, L, st, w, K, ce, sl⟩ := S
  obtain ⟨t1, t2, t3, t4⟩ := t
  unfold ev_putF at h1 h2
  dsimp only at h1 h2
  cases hr : vwCl[t1.toNat]? with
  | none => simp [hr] at h1
  | some r =>
    rw [hr] at h1 h2
    dsimp only at h1
    cases h1
    split at h2
    · rename_i a x st'
      split at h2
      · rename_i cl r' ty hcl hr' hty
        cases hr'
        split at h2
        · rename_i hc
          obtain ⟨hc1, hc2, hc3, hlen, hft, hfin⟩ := hc
          cases h2
          obtain ⟨hP, hD, hS, hW, hB, hL, hs⟩ := hR
          obtain ⟨va, sc1, rfl, hva, hs1⟩ := ev_s_cons hs
          obtain ⟨vx, sc2, rfl, hvx, hs2⟩ := ev_s_cons hs1
          obtain ⟨ad, x0, rfl, hws, hcc⟩ := ev_ref1 hW hc1 hvx hcl
          cases x0 with
          | inl z =>
            obtain ⟨tt, b1, b2, -⟩ := hcc
            have : t1.toNat < 10 := (List.getElem?_eq_some_iff.mp hr).1
            omega
          | inr o =>
            obtain ⟨ci, fs⟩ := o
            obtain ⟨b1, b2, b3, b4⟩ := hcc
            dsimp only at b1 b3 b4
            have hci : vwCl[ci]? = some r := by rw [← b1, hc2]; exact hr
            have hty : ev_tyl[ci]? = some ty := by rw [← b1, hc2]; exact hty
            obtain ⟨k1, k2, k3, -⟩ := ev_cls ci r ty hci hty
            obtain ⟨hn, hfit⟩ := ev_fit_ok hft hva
            refine va_putF hx hb hts k1 ty k2 k3 hown hK hP hD hS _ hws hci t2.toNat hc3 (hts _ (hw _ (List.mem_singleton.mpr rfl))) (fun _ h => h) hfin.1 (hini hfin.2.1) hfin.2.2 (k2 _ hc3) hn hfit (by rw [b3]; exact hlen) hd (fun H1 locs1 hP1 hD1 hS1 => hk _ (List.mem_singleton.mpr rfl) g _ H1 locs1 ls _ hle ⟨hP1, hD1, hS1, ev_w_set hW hws ⟨b1, b2, by rw [List.length_set, List.length_set]; exact b3, fun j a' hj => ?_⟩, hB, hL, hs2⟩)
            dsimp only at hj ⊢
            by_cases hjk : j = t2.toNat
            · subst hjk
              rw [List.getElem?_set_self hlen] at hj
              cases hj
              exact ⟨va, hva, List.getElem?_set_self (by rw [b3]; exact hlen)⟩
            · rw [List.getElem?_set_ne (Ne.symm hjk)] at hj
              obtain ⟨v, d1, d2⟩ := b4 j a' hj
              exact ⟨v, d1, by rw [List.getElem?_set_ne (Ne.symm hjk)]; exact d2⟩
        · cases h2
      · cases h2
    · cases h2

/-! arrays -/
/-- an array's cell, at a number within it -/
def ev_ix (t : Nat) (x i : ev_A) (w : List ev_C) : Option (List ev_A × Nat) := match w[x.2.toNat]? with
  | some cl => if x.1 = 1 ∧ cl.1 = 100 + t ∧ i.1 = 0 ∧ 0 ≤ (Int32.ofInt i.2).toInt ∧ (Int32.ofInt i.2).toInt < (cl.2.length : Int) then some (cl.2, (Int32.ofInt i.2).toNatClampNeg) else none
  | none => none
theorem ev_ix_ok {t : Nat} (ht : t < 4) {x i : ev_A} {w : List ev_C} {cs : List ev_A} {j : Nat} (h : ev_ix t x i w = some (cs, j)) {s : State} {g : ev_G} {ws : va_W} (hW : ev_w s g w ws) {vx vi : Value} (hx : ev_v g x = some vx) (hi : ev_v g i = some vi) :
    ∃ (ad : Nat) (cA : ClassId) (n : Nat) (arr : (Nat → Int32) ⊕ (Nat → Int64) ⊕ (Nat → UInt32) ⊕ (Nat → UInt64) ⊕ (Nat → Option Nat)) (i0 : Int32), vx = .ref ad ∧ vi = .int i0 ∧ ws[x.2.toNat]? = some (ad, .inl (cA, n, arr)) ∧ n = cs.length ∧ vp_in i0 n ∧ i0.toNatClampNeg = j ∧ j < cs.length ∧ ArrOfT s cA (ev_ty t) ∧ va_RA s cA (ev_ty t) ∧ ev_ar g t cs arr ∧ w[x.2.toNat]? = some (100 + t, cs) := by
  unfold ev_ix at h
  split at h
  · rename_i cl hcl
    split at h
    · rename_i hc
      obtain ⟨h1, h2, h3, h4, h5⟩ := hc
      cases h
      obtain ⟨ad, x0, rfl, hws, hcc⟩ := ev_ref1 hW h1 hx hcl
      obtain ⟨it, iv⟩ := i
      have h3 : it = 0 := h3
      subst h3
      have hi : vi = .int (Int32.ofInt iv) := (Option.some.inj hi).symm
      subst hi
      cases x0 with
      | inr o =>
        obtain ⟨b1, b2, -⟩ := hcc
        omega
      | inl z =>
        obtain ⟨cA, n, arr⟩ := z
        obtain ⟨tt, b1, b2, b3, b4, b5, b6⟩ := hcc
        have : tt = t := by omega
        subst this
        dsimp only at b3 b4 b5 b6 h4 h5
        have hv : vp_in (Int32.ofInt iv) n := by rw [vp_in_iff, b3]; exact ⟨h4, h5⟩
        have hj : (Int32.ofInt iv).toNatClampNeg < cl.2.length := by
          have h9 := hv
          unfold vp_in at h9
          rw [b3] at h9
          exact Nat.lt_of_not_le (fun q => h9 (Or.inr q))
        exact ⟨ad, cA, n, arr, _, rfl, rfl, hws, b3, hv, rfl, hj, b4, b5, b6, by rw [hcl, ← h2]⟩
    · cases h
  · cases h
theorem ev_K1 {D : va_G} {s : State} {cA : ClassId} {ty : FieldType} (hK : va_K D vwCl [] s) (h1 : ArrOfT s cA ty) (h2 : va_RA s cA ty) : va_K D vwCl [(cA, ty)] s := ⟨hK.1, fun k q hk => by
  have hz : k < 1 := (List.getElem?_eq_some_iff.mp hk).1
  rw [show k = 0 by omega] at hk
  cases hk
  exact ⟨h1, h2⟩⟩

def ev_iaload : ev_O := (fun _ _ => some (.iaload, 1, []), fun _ _ S => match S.2.2.1 with
  | i :: x :: st => (match ev_ix 0 x i S.2.2.2.1 with
    | some (cs, j) => (match cs[j]? with
      | some a => some [ev_adv S 1 (a :: st)]
      | none => none)
    | none => none)
  | _ => none)
theorem ev_iaload_ok : ev_Snd ev_iaload := by
  intro p l e R s m args below meth c cc Q D A g0 P t S i n cs Ss X h1 hd hw h2 hk g ws H locs ls sc hle hR
  obtain ⟨hx, hb, hml, hown, hts, hK, hA, hN, hini, hcC, hcS, hf, hlc, hscr⟩ := X
  obtain ⟨pc, L, st, w, K, ce, sl⟩ := S
  have h1 : some ((.iaload : Instr), (1 : Nat), ([] : List Cond)) = some (i, n, cs) := h1
  cases h1
  unfold ev_iaload at h2
  dsimp only at h2
  split at h2
  · rename_i i x st'
    split at h2
    · rename_i cs j hix
      split at h2
      · rename_i a ha
        cases h2
        obtain ⟨hP, hD, hS, hW, hB, hL, hs⟩ := hR
        obtain ⟨vi, sc2, rfl, hvi, hs2⟩ := ev_s_cons hs
        obtain ⟨vx, sc3, rfl, hvx, hs3⟩ := ev_s_cons hs2
        obtain ⟨ad, cA, n, arr, i0, rfl, rfl, hws, hn, hv, hj, hjl, b4, b5, b6, hwc⟩ := ev_ix_ok (by decide) hix hW hvx hvi
        cases arr with
        | inl f =>
          exact va_iald hx hb (ev_K1 hK b4 b5) hP _ 0 hws rfl hv hd (hk _ (List.mem_singleton.mpr rfl) g ws H locs ls _ hle ⟨hP, hD, hS, hW, hB, hL, by rw [hj]; exact b6.2 j a ha, hs3⟩)
        | inr z => rcases z with z | z | z | z <;> first | exact b6.elim | (have := b6.1; omega)
      · cases h2
    · cases h2
  · cases h2

def ev_baload : ev_O := (fun _ _ => some (.baload, 1, []), fun _ _ S => match S.2.2.1 with
  | i :: x :: st => (match ev_ix 1 x i S.2.2.2.1 with
    | some (cs, j) => (match cs[j]? with
      | some a => some [ev_adv S 1 (a :: st)]
      | none => none)
    | none => none)
  | _ => none)
theorem ev_baload_ok : ev_Snd ev_baload := by
  intro p l e R s m args below meth c cc Q D A g0 P t S i n cs Ss X h1 hd hw h2 hk g ws H locs ls sc hle hR
  obtain ⟨hx, hb, hml, hown, hts, hK, hA, hN, hini, hcC, hcS, hf, hlc, hscr⟩ := X
  obtain ⟨pc, L, st, w, K, ce, sl⟩ := S
  have h1 : some ((.baload : Instr), (1 : Nat), ([] : List Cond)) = some (i, n, cs) := h1
  cases h1
  unfold ev_baload at h2
  dsimp only at h2
  split at h2
  · rename_i i x st'
    split at h2
    · rename_i cs j hix
      split at h2
      · rename_i a ha
        cases h2
        obtain ⟨hP, hD, hS, hW, hB, hL, hs⟩ := hR
        obtain ⟨vi, sc2, rfl, hvi, hs2⟩ := ev_s_cons hs
        obtain ⟨vx, sc3, rfl, hvx, hs3⟩ := ev_s_cons hs2
        obtain ⟨ad, cA, n, arr, i0, rfl, rfl, hws, hn, hv, hj, hjl, b4, b5, b6, hwc⟩ := ev_ix_ok (by decide) hix hW hvx hvi
        cases arr with
        | inl f =>
          exact va_bald hx hb (ev_K1 hK b4 b5) hP _ 0 hws rfl hv hd (hk _ (List.mem_singleton.mpr rfl) g ws H locs ls _ hle ⟨hP, hD, hS, hW, hB, hL, by rw [hj]; exact b6.2 j a ha, hs3⟩)
        | inr z => rcases z with z | z | z | z <;> first | exact b6.elim | (have := b6.1; omega)
      · cases h2
    · cases h2
  · cases h2

def ev_laload : ev_O := (fun _ _ => some (.laload, 1, []), fun _ _ S => match S.2.2.1 with
  | i :: x :: st => (match ev_ix 2 x i S.2.2.2.1 with
    | some (cs, j) => (match cs[j]? with
      | some a => some [ev_adv S 1 (a :: st)]
      | none => none)
    | none => none)
  | _ => none)
theorem ev_laload_ok : ev_Snd ev_laload := by
  intro p l e R s m args below meth c cc Q D A g0 P t S i n cs Ss X h1 hd hw h2 hk g ws H locs ls sc hle hR
  obtain ⟨hx, hb, hml, hown, hts, hK, hA, hN, hini, hcC, hcS, hf, hlc, hscr⟩ := X
  obtain ⟨pc, L, st, w, K, ce, sl⟩ := S
  have h1 : some ((.laload : Instr), (1 : Nat), ([] : List Cond)) = some (i, n, cs) := h1
  cases h1
  unfold ev_laload at h2
  dsimp only at h2
  split at h2
  · rename_i i x st'
    split at h2
    · rename_i cs j hix
      split at h2
      · rename_i a ha
        cases h2
        obtain ⟨hP, hD, hS, hW, hB, hL, hs⟩ := hR
        obtain ⟨vi, sc2, rfl, hvi, hs2⟩ := ev_s_cons hs
        obtain ⟨vx, sc3, rfl, hvx, hs3⟩ := ev_s_cons hs2
        obtain ⟨ad, cA, n, arr, i0, rfl, rfl, hws, hn, hv, hj, hjl, b4, b5, b6, hwc⟩ := ev_ix_ok (by decide) hix hW hvx hvi
        rcases arr with f | f | f | f | f
        · have := b6.1; omega
        · exact va_lald hx hb (ev_K1 hK b4 b5) hP _ 0 hws rfl hv hd (hk _ (List.mem_singleton.mpr rfl) g ws H locs ls _ hle ⟨hP, hD, hS, hW, hB, hL, by rw [hj]; exact b6.2 j a ha, hs3⟩)
        · exact b6.elim
        · exact b6.elim
        · have := b6.1; omega
      · cases h2
    · cases h2
  · cases h2

def ev_aaload : ev_O := (fun _ _ => some (.aaload, 1, []), fun _ _ S => match S.2.2.1 with
  | i :: x :: st => (match ev_ix 3 x i S.2.2.2.1 with
    | some (cs, j) => (match cs[j]? with
      | some a => some [ev_adv S 1 (a :: st)]
      | none => none)
    | none => none)
  | _ => none)
theorem ev_aaload_ok : ev_Snd ev_aaload := by
  intro p l e R s m args below meth c cc Q D A g0 P t S i n cs Ss X h1 hd hw h2 hk g ws H locs ls sc hle hR
  obtain ⟨hx, hb, hml, hown, hts, hK, hA, hN, hini, hcC, hcS, hf, hlc, hscr⟩ := X
  obtain ⟨pc, L, st, w, K, ce, sl⟩ := S
  have h1 : some ((.aaload : Instr), (1 : Nat), ([] : List Cond)) = some (i, n, cs) := h1
  cases h1
  unfold ev_aaload at h2
  dsimp only at h2
  split at h2
  · rename_i i x st'
    split at h2
    · rename_i cs j hix
      split at h2
      · rename_i a ha
        cases h2
        obtain ⟨hP, hD, hS, hW, hB, hL, hs⟩ := hR
        obtain ⟨vi, sc2, rfl, hvi, hs2⟩ := ev_s_cons hs
        obtain ⟨vx, sc3, rfl, hvx, hs3⟩ := ev_s_cons hs2
        obtain ⟨ad, cA, n, arr, i0, rfl, rfl, hws, hn, hv, hj, hjl, b4, b5, b6, hwc⟩ := ev_ix_ok (by decide) hix hW hvx hvi
        rcases arr with f | f | f | f | f
        · have := b6.1; omega
        · have := b6.1; omega
        · exact b6.elim
        · exact b6.elim
        · exact va_aldq hx hb (ev_K1 hK b4 b5) hP _ 0 hws rfl hv hd (hk _ (List.mem_singleton.mpr rfl) g ws H locs ls _ hle ⟨hP, hD, hS, hW, hB, hL, by rw [hj]; exact b6.2 j a ha, hs3⟩)
      · cases h2
    · cases h2
  · cases h2

theorem ev_set_rel {α : Type} {cs : List ev_A} {j : Nat} {a : ev_A} {g : ev_G} {F : α → Value} {f : Nat → α} {v : α} (hj : j < cs.length) (h : ∀ (k : Nat) (x : ev_A), cs[k]? = some x → ev_v g x = some (F (f k))) (ha : ev_v g a = some (F v)) : ∀ (k : Nat) (x : ev_A), (cs.set j a)[k]? = some x → ev_v g x = some (F (if k = j then v else f k)) := by
  intro k x hk
  by_cases hkj : k = j
  · subst hkj
    rw [List.getElem?_set_self hj] at hk
    cases hk
    rw [if_pos rfl]
    exact ha
  · rw [List.getElem?_set_ne (Ne.symm hkj)] at hk
    rw [if_neg hkj]
    exact h k x hk
def ev_iastore : ev_O := (fun _ _ => some (.iastore, 1, []), fun _ _ S => match S.2.2.1 with
  | a :: i :: x :: st => (match ev_ix 0 x i S.2.2.2.1 with
    | some (cs, j) => if ev_isI a = true then some [(S.1 + 1, S.2.1, st, S.2.2.2.1.set x.2.toNat (100, cs.set j a), S.2.2.2.2)] else none
    | none => none)
  | _ => none)
theorem ev_iastore_ok : ev_Snd ev_iastore := by
  intro p l e R s m args below meth c cc Q D A g0 P t S i n cs Ss X h1 hd hw h2 hk g ws H locs ls sc hle hR
  obtain ⟨hx, hb, hml, hown, hts, hK, hA, hN, hini, hcC, hcS, hf, hlc, hscr⟩ := X
  obtain ⟨pc, L, st, w, K, ce, sl⟩ := S
  have h1 : some ((.iastore : Instr), (1 : Nat), ([] : List Cond)) = some (i, n, cs) := h1
  cases h1
  unfold ev_iastore at h2
  dsimp only at h2
  split at h2
  · rename_i a i x st'
    split at h2
    · rename_i cs j hix
      split at h2
      · rename_i ha
        cases h2
        obtain ⟨hP, hD, hS, hW, hB, hL, hs⟩ := hR
        obtain ⟨va, sc1, rfl, hva, hs1⟩ := ev_s_cons hs
        obtain ⟨vi, sc2, rfl, hvi, hs2⟩ := ev_s_cons hs1
        obtain ⟨vx, sc3, rfl, hvx, hs3⟩ := ev_s_cons hs2
        obtain ⟨a0, rfl⟩ := ev_vI ha hva
        obtain ⟨ad, cA, n, arr, i0, rfl, rfl, hws, hn, hv, hj, hjl, b4, b5, b6, hwc⟩ := ev_ix_ok (by decide) hix hW hvx hvi
        cases arr with
        | inl f =>
          refine va_iast hx hb (ev_K1 hK b4 b5) hP hD hS _ 0 hws rfl hv hd (fun H1 locs1 hP1 hD1 hS1 => hk _ (List.mem_singleton.mpr rfl) g _ H1 locs1 ls _ hle ⟨hP1, hD1, hS1, ev_w_set hW hws ⟨0, by decide, rfl, by rw [List.length_set]; exact hn, b4, b5, by decide, ?_⟩, hB, hL, hs3⟩)
          rw [hj]
          exact ev_set_rel (F := Value.int) hjl b6.2 hva
        | inr z => rcases z with z | z | z | z <;> first | exact b6.elim | (have := b6.1; omega)
      · cases h2
    · cases h2
  · cases h2
/-- a byte into an array of bytes: a number is cut, a variable gets a new name -/
def ev_bastore : ev_O := (fun _ _ => some (.bastore, 1, []), fun _ _ S => match S.2.2.1 with
  | a :: i :: x :: st => (match ev_ix 1 x i S.2.2.2.1 with
    | some (cs, j) => if ev_isI a = true then (if a.1 = 0 then some [(S.1 + 1, S.2.1, st, S.2.2.2.1.set x.2.toNat (101, cs.set j (0, (vp_nar .byte (Int32.ofInt a.2)).toInt)), S.2.2.2.2)] else some [(S.1 + 1, S.2.1, st, S.2.2.2.1.set x.2.toNat (101, cs.set j (3, (S.2.2.2.2.1.length : Int))), S.2.2.2.2.1 ++ [ev_full], S.2.2.2.2.2)]) else none
    | none => none)
  | _ => none)
theorem ev_bastore_ok : ev_Snd ev_bastore := by
  intro p l e R s m args below meth c cc Q D A g0 P t S i n cs Ss X h1 hd hw h2 hk g ws H locs ls sc hle hR
  obtain ⟨hx, hb, hml, hown, hts, hK, hA, hN, hini, hcC, hcS, hf, hlc, hscr⟩ := X
  obtain ⟨pc, L, st, w, K, ce, sl⟩ := S
  have h1 : some ((.bastore : Instr), (1 : Nat), ([] : List Cond)) = some (i, n, cs) := h1
  cases h1
  unfold ev_bastore at h2
  dsimp only at h2
  split at h2
  · rename_i a i x st'
    split at h2
    · rename_i cs j hix
      split at h2
      · rename_i ha
        have hR0 := hR
        obtain ⟨hP, hD, hS, hW, hB, hL, hs⟩ := hR0
        obtain ⟨va, sc1, rfl, hva, hs1⟩ := ev_s_cons hs
        obtain ⟨vi, sc2, rfl, hvi, hs2⟩ := ev_s_cons hs1
        obtain ⟨vx, sc3, rfl, hvx, hs3⟩ := ev_s_cons hs2
        obtain ⟨a0, rfl⟩ := ev_vI ha hva
        obtain ⟨ad, cA, n, arr, i0, rfl, rfl, hws, hn, hv, hj, hjl, b4, b5, b6, hwc⟩ := ev_ix_ok (by decide) hix hW hvx hvi
        cases arr with
        | inl f =>
          split at h2
          · rename_i hz
            cases h2
            obtain ⟨at_, an⟩ := a
            have hz : at_ = 0 := hz
            subst hz
            have ea : Int32.ofInt an = a0 := Value.int.inj (Option.some.inj hva)
            refine va_bast hx hb (ev_K1 hK b4 b5) hP hD hS _ 0 hws rfl hv hd (fun H1 locs1 hP1 hD1 hS1 => hk _ (List.mem_singleton.mpr rfl) g _ H1 locs1 ls _ hle ⟨hP1, hD1, hS1, ev_w_set hW hws ⟨1, by decide, rfl, by rw [List.length_set]; exact hn, b4, b5, by decide, ?_⟩, hB, hL, hs3⟩)
            rw [hj]
            dsimp only
            rw [ea]
            exact ev_set_rel (F := Value.int) hjl b6.2 (ev_v0 g _)
          · cases h2
            obtain ⟨g', l1, ⟨hP, hD, hS, hW, hB, hL, hs⟩, e1⟩ := ev_fresh hR (.int (vp_nar .byte a0)) ev_full (fun z hz => ev_full_ok _)
            refine va_bast hx hb (ev_K1 hK b4 b5) hP hD hS _ 0 hws rfl hv hd (fun H1 locs1 hP1 hD1 hS1 => hk _ (List.mem_singleton.mpr rfl) g' _ H1 locs1 ls _ (ev_le_tr hle l1) ⟨hP1, hD1, hS1, ev_w_set hW hws ⟨1, by decide, rfl, by rw [List.length_set]; exact hn, b4, b5, by decide, ?_⟩, hB, hL, hs.2.2.2⟩)
            rw [hj]
            exact ev_set_rel (F := Value.int) hjl (fun k x hk => ev_v_le l1 (b6.2 k x hk)) (ev_v3 e1)
        | inr z => rcases z with z | z | z | z <;> first | exact b6.elim | (have := b6.1; omega)
      · cases h2
    · cases h2
  · cases h2
/-! new cells, lengths, small library calls -/
def ev_cs (st : List ev_A) : Nat := (st.map (fun a => if ev_isL a = true then 2 else 1)).sum
theorem ev_cs_ok {g : ev_G} : ∀ {st : List ev_A} {sc : List Value}, ev_s g st sc → (sc.map fun v => v.category).sum = ev_cs st
  | [], [], _ => rfl
  | [], _ :: _, h => h.elim
  | _ :: _, [], h => h.elim
  | a :: st, v :: sc, h => by
    have ih := ev_cs_ok h.2
    simp only [ev_cs, List.map_cons, List.sum_cons] at ih ⊢
    rw [ih]
    rcases ev_cat h.1 with ⟨q1, q2⟩ | ⟨q1, q2⟩ <;> rw [q1, q2] <;> rfl
theorem ev_nn {x : Int32} (h : 0 ≤ x.toInt) : ¬ x < 0 := by
  rw [Int32.lt_iff_toInt_lt]
  exact Int.not_lt.mpr h
/-- how many places a new array has -/
def ev_len (a : ev_A) : Option Nat := if a.1 = 0 ∧ 0 ≤ (Int32.ofInt a.2).toInt ∧ (Int32.ofInt a.2).toNatClampNeg ≤ 100000 then some (Int32.ofInt a.2).toNatClampNeg else none
theorem ev_len_ok {a : ev_A} {n : Nat} {g : ev_G} {v : Value} (h : ev_len a = some n) (hv : ev_v g a = some v) : ∃ x : Int32, v = .int x ∧ ¬ x < 0 ∧ x.toNatClampNeg = n ∧ n ≤ 100000 := by
  unfold ev_len at h
  split at h
  · rename_i hc
    cases h
    obtain ⟨t, k⟩ := a
    obtain ⟨h1, h2, h3⟩ := hc
    have h1 : t = 0 := h1
    subst h1
    exact ⟨_, (Option.some.inj hv).symm, ev_nn h2, rfl, h3⟩
  · cases h

def ev_newI : ev_O := (fun _ _ => some (.newarray .int, 2, [.arrayClass .int]), fun P _ S => match S.2.2.1 with
  | a :: st => (match ev_len a with
    | some n => if S.2.2.2.2.2.1 + 1 ≤ P.1 ∧ S.2.2.2.2.2.2 + n ≤ P.2.1 then some [(S.1 + 2, S.2.1, (1, (S.2.2.2.1.length : Int)) :: st, S.2.2.2.1 ++ [(100, List.replicate n (0, 0))], S.2.2.2.2.1, S.2.2.2.2.2.1 + 1, S.2.2.2.2.2.2 + n)] else none
    | none => none)
  | _ => none)
theorem ev_newI_ok : ev_Snd ev_newI := by
  intro p l e R s m args below meth c cc Q D A g0 P t S i n cs Ss X h1 hd hw h2 hk g ws H locs ls sc hle hR
  obtain ⟨hx, hb, hml, hown, hts, hK, hA, hN, hini, hcC, hcS, hf, hlc, hscr⟩ := X
  obtain ⟨pc, L, st, w, K, ce, sl⟩ := S
  have h1 : some ((.newarray .int : Instr), (2 : Nat), ([.arrayClass .int] : List Cond)) = some (i, n, cs) := h1
  cases h1
  unfold ev_newI at h2
  dsimp only at h2
  split at h2
  · rename_i a st'
    split at h2
    · rename_i n hn
      split at h2
      · rename_i hc
        cases h2
        obtain ⟨hP, hD, hS, hW, hB, hL, hs⟩ := hR
        obtain ⟨va, sc1, rfl, hva, hs1⟩ := ev_s_cons hs
        obtain ⟨x, rfl, x1, x2, x3⟩ := ev_len_ok hn hva
        refine va_newa hx hb (atype := .int) (hts _ (hw _ (List.mem_singleton.mpr rfl))) rfl hK hP hD hS hA (a0 := (n, .inl (fun _ => 0))) (fun cA => rfl) x1 x2 (by simp only [componentBytes, newarray.typeOf]; omega) (by rw [hcC]; exact hc.1) (by rw [hcS]; exact hc.2) hd (fun q cA H1 hK1 hP1 hD1 hS1 => ?_)
        obtain ⟨k1, k2⟩ := hK1.2 0 _ rfl
        have hcell : ev_c s (g.1 ++ [q], g.2.1, g.2.2) (100, List.replicate n (0, 0)) (.inl (cA, n, .inl (fun _ => 0))) := by
          refine ⟨0, by decide, rfl, by simp, k1, k2, by decide, fun j y hj => ?_⟩
          rw [List.getElem?_replicate] at hj
          split at hj
          · cases hj
            rfl
          · cases hj
        obtain ⟨l1, w1, v1⟩ := ev_w_push hW hcell
        exact hk _ (List.mem_singleton.mpr rfl) _ _ H1 locs ls _ (ev_le_tr hle l1) ⟨hP1, hD1, hS1, w1, hB, ev_l_le l1 hL, v1, ev_s_le l1 hs1⟩
      · cases h2
    · cases h2
  · cases h2

def ev_newB : ev_O := (fun _ _ => some (.newarray .byte, 2, [.arrayClass .byte]), fun P _ S => match S.2.2.1 with
  | a :: st => (match ev_len a with
    | some n => if S.2.2.2.2.2.1 + 1 ≤ P.1 ∧ S.2.2.2.2.2.2 + n ≤ P.2.1 then some [(S.1 + 2, S.2.1, (1, (S.2.2.2.1.length : Int)) :: st, S.2.2.2.1 ++ [(101, List.replicate n (0, 0))], S.2.2.2.2.1, S.2.2.2.2.2.1 + 1, S.2.2.2.2.2.2 + n)] else none
    | none => none)
  | _ => none)
theorem ev_newB_ok : ev_Snd ev_newB := by
  intro p l e R s m args below meth c cc Q D A g0 P t S i n cs Ss X h1 hd hw h2 hk g ws H locs ls sc hle hR
  obtain ⟨hx, hb, hml, hown, hts, hK, hA, hN, hini, hcC, hcS, hf, hlc, hscr⟩ := X
  obtain ⟨pc, L, st, w, K, ce, sl⟩ := S
  have h1 : some ((.newarray .byte : Instr), (2 : Nat), ([.arrayClass .byte] : List Cond)) = some (i, n, cs) := h1
  cases h1
  unfold ev_newB at h2
  dsimp only at h2
  split at h2
  · rename_i a st'
    split at h2
    · rename_i n hn
      split at h2
      · rename_i hc
        cases h2
        obtain ⟨hP, hD, hS, hW, hB, hL, hs⟩ := hR
        obtain ⟨va, sc1, rfl, hva, hs1⟩ := ev_s_cons hs
        obtain ⟨x, rfl, x1, x2, x3⟩ := ev_len_ok hn hva
        refine va_newa hx hb (atype := .byte) (hts _ (hw _ (List.mem_singleton.mpr rfl))) rfl hK hP hD hS hA (a0 := (n, .inl (fun _ => 0))) (fun cA => rfl) x1 x2 (by simp only [componentBytes, newarray.typeOf]; omega) (by rw [hcC]; exact hc.1) (by rw [hcS]; exact hc.2) hd (fun q cA H1 hK1 hP1 hD1 hS1 => ?_)
        obtain ⟨k1, k2⟩ := hK1.2 0 _ rfl
        have hcell : ev_c s (g.1 ++ [q], g.2.1, g.2.2) (101, List.replicate n (0, 0)) (.inl (cA, n, .inl (fun _ => 0))) := by
          refine ⟨1, by decide, rfl, by simp, k1, k2, by decide, fun j y hj => ?_⟩
          rw [List.getElem?_replicate] at hj
          split at hj
          · cases hj
            rfl
          · cases hj
        obtain ⟨l1, w1, v1⟩ := ev_w_push hW hcell
        exact hk _ (List.mem_singleton.mpr rfl) _ _ H1 locs ls _ (ev_le_tr hle l1) ⟨hP1, hD1, hS1, w1, hB, ev_l_le l1 hL, v1, ev_s_le l1 hs1⟩
      · cases h2
    · cases h2
  · cases h2

def ev_newJ : ev_O := (fun _ _ => some (.newarray .long, 2, [.arrayClass .long]), fun P _ S => match S.2.2.1 with
  | a :: st => (match ev_len a with
    | some n => if S.2.2.2.2.2.1 + 1 ≤ P.1 ∧ S.2.2.2.2.2.2 + n ≤ P.2.1 then some [(S.1 + 2, S.2.1, (1, (S.2.2.2.1.length : Int)) :: st, S.2.2.2.1 ++ [(102, List.replicate n (4, 0))], S.2.2.2.2.1, S.2.2.2.2.2.1 + 1, S.2.2.2.2.2.2 + n)] else none
    | none => none)
  | _ => none)
theorem ev_newJ_ok : ev_Snd ev_newJ := by
  intro p l e R s m args below meth c cc Q D A g0 P t S i n cs Ss X h1 hd hw h2 hk g ws H locs ls sc hle hR
  obtain ⟨hx, hb, hml, hown, hts, hK, hA, hN, hini, hcC, hcS, hf, hlc, hscr⟩ := X
  obtain ⟨pc, L, st, w, K, ce, sl⟩ := S
  have h1 : some ((.newarray .long : Instr), (2 : Nat), ([.arrayClass .long] : List Cond)) = some (i, n, cs) := h1
  cases h1
  unfold ev_newJ at h2
  dsimp only at h2
  split at h2
  · rename_i a st'
    split at h2
    · rename_i n hn
      split at h2
      · rename_i hc
        cases h2
        obtain ⟨hP, hD, hS, hW, hB, hL, hs⟩ := hR
        obtain ⟨va, sc1, rfl, hva, hs1⟩ := ev_s_cons hs
        obtain ⟨x, rfl, x1, x2, x3⟩ := ev_len_ok hn hva
        refine va_newa hx hb (atype := .long) (hts _ (hw _ (List.mem_singleton.mpr rfl))) rfl hK hP hD hS hA (a0 := (n, .inr (.inl (fun _ => 0)))) (fun cA => rfl) x1 x2 (by simp only [componentBytes, newarray.typeOf]; omega) (by rw [hcC]; exact hc.1) (by rw [hcS]; exact hc.2) hd (fun q cA H1 hK1 hP1 hD1 hS1 => ?_)
        obtain ⟨k1, k2⟩ := hK1.2 0 _ rfl
        have hcell : ev_c s (g.1 ++ [q], g.2.1, g.2.2) (102, List.replicate n (4, 0)) (.inl (cA, n, .inr (.inl (fun _ => 0)))) := by
          refine ⟨2, by decide, rfl, by simp, k1, k2, by decide, fun j y hj => ?_⟩
          rw [List.getElem?_replicate] at hj
          split at hj
          · cases hj
            rfl
          · cases hj
        obtain ⟨l1, w1, v1⟩ := ev_w_push hW hcell
        exact hk _ (List.mem_singleton.mpr rfl) _ _ H1 locs ls _ (ev_le_tr hle l1) ⟨hP1, hD1, hS1, w1, hB, ev_l_le l1 hL, v1, ev_s_le l1 hs1⟩
      · cases h2
    · cases h2
  · cases h2

def ev_newQ : ev_O := (fun P t => some (.anewarray t.1.toNat, 3, [.classLink P.2.2.2.1 t.1.toNat "BarberMinutes$Minutes"]), fun P _ S => match S.2.2.1 with
  | a :: st => (match ev_len a with
    | some n => if S.2.2.2.2.2.1 + 1 ≤ P.1 ∧ S.2.2.2.2.2.2 + n ≤ P.2.1 then some [(S.1 + 3, S.2.1, (1, (S.2.2.2.1.length : Int)) :: st, S.2.2.2.1 ++ [(103, List.replicate n (2, 0))], S.2.2.2.2.1, S.2.2.2.2.2.1 + 1, S.2.2.2.2.2.2 + n)] else none
    | none => none)
  | _ => none)
theorem ev_newQ_ok : ev_Snd ev_newQ := by
  intro p l e R s m args below meth c cc Q D A g0 P t S i n cs Ss X h1 hd hw h2 hk g ws H locs ls sc hle hR
  obtain ⟨hx, hb, hml, hown, hts, hK, hA, hN, hini, hcC, hcS, hf, hlc, hscr⟩ := X
  obtain ⟨pc, L, st, w, K, ce, sl⟩ := S
  have h1 : some ((.anewarray t.1.toNat : Instr), (3 : Nat), ([.classLink P.2.2.2.1 t.1.toNat "BarberMinutes$Minutes"] : List Cond)) = some (i, n, cs) := h1
  cases h1
  unfold ev_newQ at h2
  dsimp only at h2
  split at h2
  · rename_i a st'
    split at h2
    · rename_i n hn
      split at h2
      · rename_i hc
        cases h2
        obtain ⟨hP, hD, hS, hW, hB, hL, hs⟩ := hR
        obtain ⟨va, sc1, rfl, hva, hs1⟩ := ev_s_cons hs
        obtain ⟨x, rfl, x1, x2, x3⟩ := ev_len_ok hn hva
        refine va_newq hx hb hown (hts _ (hw _ (List.mem_singleton.mpr rfl))) hN.1.2 hK hP hD hS hA x1 x2 (by omega) (by rw [hcC]; exact hc.1) (by rw [hcS]; exact hc.2) hd (fun q cA H1 hK1 hP1 hD1 hS1 => ?_)
        obtain ⟨k1, k2⟩ := hK1.2 0 _ rfl
        have hcell : ev_c s (g.1 ++ [q], g.2.1, g.2.2) (103, List.replicate n (2, 0)) (.inl (cA, n, .inr (.inr (.inr (.inr (fun _ => none)))))) := by
          refine ⟨3, by decide, rfl, by simp, k1, k2, rfl, fun j y hj => ?_⟩
          rw [List.getElem?_replicate] at hj
          split at hj
          · cases hj
            rfl
          · cases hj
        obtain ⟨l1, w1, v1⟩ := ev_w_push hW hcell
        exact hk _ (List.mem_singleton.mpr rfl) _ _ H1 locs ls _ (ev_le_tr hle l1) ⟨hP1, hD1, hS1, w1, hB, ev_l_le l1 hL, v1, ev_s_le l1 hs1⟩
      · cases h2
    · cases h2
  · cases h2
def ev_def (ty : FieldType) : ev_A := match ty with
  | .int => (0, 0)
  | .boolean => (0, 0)
  | .long => (4, 0)
  | .object _ => (2, 0)
  | .array _ => (2, 0)
  | _ => (9, 0)
theorem ev_def_ok (g : ev_G) {ty : FieldType} (h : ((ev_def ty).1 == 9) = false) : ev_v g (ev_def ty) = some (defaultValue ty) := by
  cases ty <;> first | rfl | (simp [ev_def] at h)
def ev_new : ev_O := (fun P t => match vwCl[t.1.toNat]? with
  | some r => some (.new t.2.2.1.toNat, 3, [.classLink P.2.2.2.1 t.2.2.1.toNat r.1, .instantiable r.1 r.2.2, .initialized r.1])
  | none => none, fun P t S => match vwCl[t.1.toNat]?, ev_tyl[t.1.toNat]? with
  | some r, some ty => if S.2.2.2.2.2.1 + 1 ≤ P.1 ∧ S.2.2.2.2.2.2 + r.2.2 ≤ P.2.1 ∧ (List.range r.2.2).all (fun j => !((ev_def (ty j)).1 == 9)) = true then some [(S.1 + 3, S.2.1, (1, (S.2.2.2.1.length : Int)) :: S.2.2.1, S.2.2.2.1 ++ [(t.1.toNat, (List.range r.2.2).map (fun j => ev_def (ty j)))], S.2.2.2.2.1, S.2.2.2.2.2.1 + 1, S.2.2.2.2.2.2 + r.2.2)] else none
  | _, _ => none)
theorem ev_new_ok : ev_Snd ev_new := by
  intro p l e R s m args below meth c cc Q D A g0 P t S i n cs Ss X h1 hd hw h2 hk g ws H locs ls sc hle hR
  obtain ⟨hx, hb, hml, hown, hts, hK, hA, hN, hini, hcC, hcS, hf, hlc, hscr⟩ := X
  obtain ⟨pc, L, st, w, K, ce, sl⟩ := S
  obtain ⟨t1, t2, t3, t4⟩ := t
  unfold ev_new at h1 h2
  dsimp only at h1 h2
  cases hr : vwCl[t1.toNat]? with
  | none => simp [hr] at h1
  | some r =>
    rw [hr] at h1 h2
    dsimp only at h1
    cases h1
    split at h2
    · rename_i r' ty hr' hty
      cases hr'
      split at h2
      · rename_i hc
        obtain ⟨hc1, hc2, hc3⟩ := hc
        cases h2
        obtain ⟨hP, hD, hS, hW, hB, hL, hs⟩ := hR
        obtain ⟨k1, k2, k3, k4⟩ := ev_cls _ r ty hr hty
        have hlt : t1.toNat < 10 := (List.getElem?_eq_some_iff.mp hr).1
        refine va_new (fs := (List.range r.2.2).map (fun j => defaultValue (ty j))) hx hb hts k1 ty k2 hown (hts _ (hw _ (by simp))) (hts _ (hw _ (by simp))) (hts _ (hw _ (by simp))) hK hP hD hS hA hr (fun j hj => by simp [vp_V, List.getD, hj]) (by rw [hcC]; exact hc1) (by rw [hcS]; exact hc2) hd (fun q H1 hP1 hD1 hS1 => ?_)
        have hcell : ev_c s (g.1 ++ [q], g.2.1, g.2.2) (t1.toNat, (List.range r.2.2).map (fun j => ev_def (ty j))) (.inr (t1.toNat, (List.range r.2.2).map (fun j => defaultValue (ty j)))) := by
          refine ⟨rfl, by omega, by simp, fun j a hj => ?_⟩
          dsimp only at hj ⊢
          rw [List.getElem?_map] at hj ⊢
          cases hz : (List.range r.2.2)[j]? with
          | none => simp [hz] at hj
          | some z =>
            simp only [hz, Option.map_some] at hj ⊢
            cases hj
            refine ⟨_, ev_def_ok _ ?_, rfl⟩
            have := List.all_eq_true.mp hc3 z (List.mem_of_getElem? hz)
            simpa using this
        obtain ⟨l1, w1, v1⟩ := ev_w_push hW hcell
        exact hk _ (List.mem_singleton.mpr rfl) _ _ H1 locs ls _ (ev_le_tr hle l1) ⟨hP1, hD1, hS1, w1, hB, ev_l_le l1 hL, v1, ev_s_le l1 hs⟩
      · cases h2
    · cases h2
def ev_aastore : ev_O := (fun _ _ => some (.aastore, 1, []), fun _ _ S => match S.2.2.1 with
  | a :: i :: x :: st => (match ev_ix 3 x i S.2.2.2.1, S.2.2.2.1[a.2.toNat]? with
    | some (cs, j), some cl => if a.1 = 1 ∧ cl.1 = 2 then some [(S.1 + 1, S.2.1, st, S.2.2.2.1.set x.2.toNat (103, cs.set j a), S.2.2.2.2)] else none
    | _, _ => none)
  | _ => none)
theorem ev_aastore_ok : ev_Snd ev_aastore := by
  intro p l e R s m args below meth c cc Q D A g0 P t S i n cs Ss X h1 hd hw h2 hk g ws H locs ls sc hle hR
  obtain ⟨hx, hb, hml, hown, hts, hK, hA, hN, hini, hcC, hcS, hf, hlc, hscr⟩ := X
  obtain ⟨pc, L, st, w, K, ce, sl⟩ := S
  have h1 : some ((.aastore : Instr), (1 : Nat), ([] : List Cond)) = some (i, n, cs) := h1
  cases h1
  unfold ev_aastore at h2
  dsimp only at h2
  split at h2
  · rename_i a i x st'
    split at h2
    · rename_i cs j cl hix hcl
      split at h2
      · rename_i ha
        cases h2
        obtain ⟨hP, hD, hS, hW, hB, hL, hs⟩ := hR
        obtain ⟨va, sc1, rfl, hva, hs1⟩ := ev_s_cons hs
        obtain ⟨vi, sc2, rfl, hvi, hs2⟩ := ev_s_cons hs1
        obtain ⟨vx, sc3, rfl, hvx, hs3⟩ := ev_s_cons hs2
        obtain ⟨ad2, y0, rfl, hws2, hcc⟩ := ev_ref1 hW ha.1 hva hcl
        obtain ⟨ad, cA, n, arr, i0, rfl, rfl, hws, hn, hv, hj, hjl, b4, b5, b6, hwc⟩ := ev_ix_ok (by decide) hix hW hvx hvi
        cases y0 with
        | inl z =>
          obtain ⟨tt, c1, c2, -⟩ := hcc
          omega
        | inr o =>
          obtain ⟨ci, vs⟩ := o
          obtain ⟨c1, -⟩ := hcc
          have c1 : ci = 2 := by dsimp only at c1; omega
          subst c1
          rcases arr with f | f | f | f | f
          · have := b6.1; omega
          · have := b6.1; omega
          · exact b6.elim
          · exact b6.elim
          · refine va_astq hx hb (ev_K1 hK b4 b5) hP hD hS _ 0 _ 2 (r := (RX2, TX2, 4)) hws rfl hws2 rfl hv hd (fun H1 locs1 hP1 hD1 hS1 => hk _ (List.mem_singleton.mpr rfl) g _ H1 locs1 ls _ hle ⟨hP1, hD1, hS1, ev_w_set hW hws ⟨3, by decide, rfl, by rw [List.length_set]; exact hn, b4, b5, rfl, ?_⟩, hB, hL, hs3⟩)
            rw [hj]
            exact ev_set_rel (F := va_rf) (v := some ad2) hjl b6.2 hva
      · cases h2
    · cases h2
  · cases h2
def ev_alen : ev_O := (fun _ _ => some (.arraylength, 1, []), fun P _ S => match S.2.2.1 with
  | x :: st => if x.1 = 5 then (if x.2 = 0 ∧ 1 ≤ P.2.2.2.2.2 then some [ev_adv S 1 ((0, (Int32.ofNat (P.2.2.2.2.2 - 1)).toInt) :: st)] else none) else (match S.2.2.2.1[x.2.toNat]? with
    | some cl => if x.1 = 1 ∧ 100 ≤ cl.1 then some [ev_adv S 1 ((0, (Int32.ofNat cl.2.length).toInt) :: st)] else none
    | none => none)
  | _ => none)
theorem ev_alen_ok : ev_Snd ev_alen := by
  intro p l e R s m args below meth c cc Q D A g0 P t S i n cs Ss X h1 hd hw h2 hk g ws H locs ls sc hle hR
  obtain ⟨hx, hb, hml, hown, hts, hK, hA, hN, hini, hcC, hcS, hf, hlc, hscr⟩ := X
  obtain ⟨pc, L, st, w, K, ce, sl⟩ := S
  have h1 : some ((.arraylength : Instr), (1 : Nat), ([] : List Cond)) = some (i, n, cs) := h1
  cases h1
  unfold ev_alen at h2
  dsimp only at h2
  split at h2
  · rename_i x st'
    obtain ⟨hP, hD, hS, hW, hB, hL, hs⟩ := hR
    obtain ⟨vx, sc1, rfl, hvx, hs1⟩ := ev_s_cons hs
    split at h2
    · rename_i h5
      split at h2
      · rename_i hc
        cases h2
        obtain ⟨xt, xn⟩ := x
        have h5 : xt = 5 := h5
        subst h5
        have hc1 : xn = 0 := hc.1
        subst hc1
        obtain ⟨xs, s1, s2, s3, s4⟩ := hscr (P.2.2.2.2.2 - 1) (by omega)
        have e0 : g.2.1 = g0.2.1 := hle.2.1
        have hvx : vx = .ref (g0.2.1 0) := by rw [← e0]; exact (Option.some.inj hvx).symm
        subst hvx
        exact va_slen hx hb s1 s2 s3 hS hd (hk _ (List.mem_singleton.mpr rfl) g ws H locs ls _ hle ⟨hP, hD, hS, hW, hB, hL, ev_v0 g _, hs1⟩)
      · cases h2
    · split at h2
      · rename_i cl hcl
        split at h2
        · rename_i hc
          cases h2
          obtain ⟨ad, y0, rfl, hws, hcc⟩ := ev_ref1 hW hc.1 hvx hcl
          cases y0 with
          | inr o =>
            obtain ⟨c1, c2, -⟩ := hcc
            omega
          | inl z =>
            obtain ⟨cA, n, arr⟩ := z
            obtain ⟨tt, c1, c2, c3, c4, c5, c6⟩ := hcc
            exact va_alen hx hb (ev_K1 hK c4 c5) hP _ 0 hws rfl rfl hd (hk _ (List.mem_singleton.mpr rfl) g ws H locs ls _ hle ⟨hP, hD, hS, hW, hB, hL, by dsimp only at c3 ⊢; rw [c3]; exact ev_v0 g _, hs1⟩)
        · cases h2
      · cases h2
  · cases h2
/-- the law's own script: its j-th number is the j-th variable -/
def ev_sald : ev_O := (fun _ _ => some (.iaload, 1, []), fun P _ S => match S.2.2.1 with
  | i :: x :: st => if x.1 = 5 ∧ x.2 = 0 ∧ i.1 = 0 ∧ 1 ≤ P.2.2.2.2.2 ∧ 0 ≤ (Int32.ofInt i.2).toInt ∧ (Int32.ofInt i.2).toInt < ((P.2.2.2.2.2 - 1 : Nat) : Int) then some [ev_adv S 1 ((3, ((Int32.ofInt i.2).toNatClampNeg : Int)) :: st)] else none
  | _ => none)
theorem ev_sald_ok : ev_Snd ev_sald := by
  intro p l e R s m args below meth c cc Q D A g0 P t S i n cs Ss X h1 hd hw h2 hk g ws H locs ls sc hle hR
  obtain ⟨hx, hb, hml, hown, hts, hK, hA, hN, hini, hcC, hcS, hf, hlc, hscr⟩ := X
  obtain ⟨pc, L, st, w, K, ce, sl⟩ := S
  have h1 : some ((.iaload : Instr), (1 : Nat), ([] : List Cond)) = some (i, n, cs) := h1
  cases h1
  unfold ev_sald at h2
  dsimp only at h2
  split at h2
  · rename_i i x st'
    split at h2
    · rename_i hc
      cases h2
      obtain ⟨h5, h50, hi0, hL1, hi1, hi2⟩ := hc
      obtain ⟨hP, hD, hS, hW, hB, hL, hs⟩ := hR
      obtain ⟨vi, sc1, rfl, hvi, hs1⟩ := ev_s_cons hs
      obtain ⟨vx, sc2, rfl, hvx, hs2⟩ := ev_s_cons hs1
      obtain ⟨xt, xn⟩ := x
      have h5 : xt = 5 := h5
      subst h5
      have h50 : xn = 0 := h50
      subst h50
      obtain ⟨it, iv⟩ := i
      have hi0 : it = 0 := hi0
      subst hi0
      have hvi : vi = .int (Int32.ofInt iv) := (Option.some.inj hvi).symm
      subst hvi
      obtain ⟨xs, s1, s2, s3, s4⟩ := hscr (P.2.2.2.2.2 - 1) (by omega)
      have e0 : g.2.1 = g0.2.1 := hle.2.1
      have hvx : vx = .ref (g0.2.1 0) := by rw [← e0]; exact (Option.some.inj hvx).symm
      subst hvx
      have hv : vp_in (Int32.ofInt iv) (P.2.2.2.2.2 - 1) := by rw [vp_in_iff]; exact ⟨hi1, hi2⟩
      have hj : (Int32.ofInt iv).toNatClampNeg < P.2.2.2.2.2 - 1 := by
        have h9 := hv
        unfold vp_in at h9
        exact Nat.lt_of_not_le (fun q => h9 (Or.inr q))
      obtain ⟨l3, e3⟩ := hle.2.2
      have he : g.2.2[(Int32.ofInt iv).toNatClampNeg]? = some (.int (xs (Int32.ofInt iv).toNatClampNeg)) := by rw [e3]; exact ev_ap (s4 _ hj)
      exact va_sld hx hb s1 s2 s3 hS hv hd (hk _ (List.mem_singleton.mpr rfl) g ws H locs ls _ hle ⟨hP, hD, hS, hW, hB, hL, ev_v3 he, hs2⟩)
    · cases h2
  · cases h2
/-! calls of the library by one row -/
def ev_oinit : ev_O := (fun P t => some (.invokespecial t.1.toNat, 3, [.methodLink P.2.2.2.1 t.1.toNat objectInit, .instanceMethod objectInit, .code objectInit ⟨#[0xb1]⟩ 1 none]), fun _ _ S => match S.2.2.1 with
  | x :: st => if ev_isR x = true ∧ ev_cs st ≤ 8 then some [ev_adv S 3 st] else none
  | _ => none)
theorem ev_oinit_ok : ev_Snd ev_oinit := by
  intro p l e R s m args below meth c cc Q D A g0 P t S i n cs Ss X h1 hd hw h2 hk g ws H locs ls sc hle hR
  obtain ⟨hx, hb, hml, hown, hts, hK, hA, hN, hini, hcC, hcS, hf, hlc, hscr⟩ := X
  obtain ⟨pc, L, st, w, K, ce, sl⟩ := S
  have h1 : some ((.invokespecial t.1.toNat : Instr), (3 : Nat), ([.methodLink P.2.2.2.1 t.1.toNat objectInit, .instanceMethod objectInit, .code objectInit ⟨#[0xb1]⟩ 1 none] : List Cond)) = some (i, n, cs) := h1
  cases h1
  unfold ev_oinit at h2
  dsimp only at h2
  split at h2
  · rename_i x st'
    split at h2
    · rename_i hc
      cases h2
      obtain ⟨hP, hD, hS, hW, hB, hL, hs⟩ := hR
      obtain ⟨vx, sc1, rfl, hvx, hs1⟩ := ev_s_cons hs
      obtain ⟨ad, rfl⟩ := ev_vR hc.1 hvx
      refine W.objInit hx hb hown (hts _ (hw _ (by simp))) (hts _ (hw _ (by simp))) (hts _ (hw _ (by simp))) (g := F0 m pc ls (.ref ad :: sc1)) rfl (hL.1.trans hml.symm) (a := ad) (rest := sc1) rfl hd hf ?_ (hk _ (List.mem_singleton.mpr rfl) g ws H locs ls _ hle ⟨hP, hD, hS, hW, hB, hL, hs1⟩)
      rw [ev_cs_ok hs1]
      show 2 * 0 + _ + 12 ≤ _
      omega
    · cases h2
  · cases h2

def ev_mmin : ev_O := (fun P t => some (.invokestatic t.1.toNat, 3, [.methodLink P.2.2.2.1 t.1.toNat Lib.Math.min.name, .static Lib.Math.min.name, .initialized "java/lang/Math", .code Lib.Math.min.name Lib.Math.min.code 2 (some .int)]), fun P _ S => match S.2.2.1 with
  | _ :: _ :: st => if ev_cs st ≤ 8 ∧ S.2.2.2.2.2.1 ≤ P.1 ∧ S.2.2.2.2.2.2 ≤ P.2.1 then ev_bin (fun x y => if y < x then y else x) (fun _ => true) 3 S else none
  | _ => none)
theorem ev_mmin_ok : ev_Snd ev_mmin := by
  intro p l e R s m args below meth c cc Q D A g0 P t S i n cs Ss X h1 hd hw h2 hk g ws H locs ls sc hle hR
  obtain ⟨hx, hb, hml, hown, hts, hK, hA, hN, hini, hcC, hcS, hf, hlc, hscr⟩ := X
  obtain ⟨pc, L, st, w, K, ce, sl⟩ := S
  have h1 : some ((.invokestatic t.1.toNat : Instr), (3 : Nat), ([.methodLink P.2.2.2.1 t.1.toNat Lib.Math.min.name, .static Lib.Math.min.name, .initialized "java/lang/Math", .code Lib.Math.min.name Lib.Math.min.code 2 (some .int)] : List Cond)) = some (i, n, cs) := h1
  cases h1
  unfold ev_mmin at h2
  dsimp only at h2
  split at h2
  · rename_i y x st'
    split at h2
    · rename_i hc
      have hs0 := hR.2.2.2.2.2.2
      have hl0 := hR.2.2.2.2.2.1.1
      obtain ⟨x0, y0, rest, S', rfl, hy, rfl, e1, e2, g', l1, hR'⟩ := ev_bin_ok (fun x y => if y < x then y else x) (fun _ => true) (fun _ _ => rfl) h2 hR
      have hsum := ev_cs_ok hs0.2.2
      exact va_mmin hx hb (hml.trans hl0.symm) hown (hts _ (hw _ (by simp))) (hts _ (hw _ (by simp))) (hts _ (hw _ (by simp))) (hts _ (hw _ (by simp))) hf (by omega) (by rw [hcC]; exact hc.2.1) (by rw [hcS]; exact hc.2.2) hd (ev_Go_eq (hk S' (List.mem_singleton.mpr rfl)) e1 e2 (ev_le_tr hle l1) hR')
    · cases h2
  · cases h2

def ev_ldc : ev_O := (fun P t => some (.ldc t.2.1.toNat, 2, [.constant P.2.2.2.1 t.2.1.toNat (Int32.ofInt t.1)]), fun _ t S => some [ev_adv S 2 ((0, (Int32.ofInt t.1).toInt) :: S.2.2.1)])
theorem ev_ldc_ok : ev_Snd ev_ldc := by
  intro p l e R s m args below meth c cc Q D A g0 P t S i n cs Ss X h1 hd hw h2 hk g ws H locs ls sc hle hR
  obtain ⟨hx, hb, hml, hown, hts, hK, hA, hN, hini, hcC, hcS, hf, hlc, hscr⟩ := X
  obtain ⟨pc, L, st, w, K, ce, sl⟩ := S
  have h1 : some ((.ldc t.2.1.toNat : Instr), (2 : Nat), ([.constant P.2.2.2.1 t.2.1.toNat (Int32.ofInt t.1)] : List Cond)) = some (i, n, cs) := h1
  cases h1
  have h2 : some [ev_adv (pc, L, st, w, K, ce, sl) 2 ((0, (Int32.ofInt t.1).toInt) :: st)] = some Ss := h2
  cases h2
  obtain ⟨hP, hD, hS, hW, hB, hL, hs⟩ := hR
  exact W.ldc hx hb hown (hts _ (hw _ (List.mem_singleton.mpr rfl))) (g := F0 m pc ls sc) rfl hd (hk _ (List.mem_singleton.mpr rfl) g ws H locs ls _ hle ⟨hP, hD, hS, hW, hB, hL, ev_v0 g _, hs⟩)

/-! text constants -/
def ev_ldcS : ev_O := (fun P t => match ev_strs[t.1.toNat]? with
  | some r => if r.1 = P.2.2.2.1 then some (.ldc r.2.1, 2, []) else none
  | none => none, fun _ t S => some [ev_adv S 2 ((5, 1 + 2 * (t.1.toNat : Int)) :: S.2.2.1)])
theorem ev_x5 {g : ev_G} {k : Nat} : ev_v g (5, 1 + 2 * (k : Int)) = some (.ref (g.2.1 (1 + 2 * k))) := by
  show some (Value.ref (g.2.1 (1 + 2 * (k : Int)).toNat)) = _
  rw [show (1 + 2 * (k : Int)).toNat = 1 + 2 * k by omega]
theorem ev_ldcS_ok : ev_Snd ev_ldcS := by
  intro p l e R s m args below meth c cc Q D A g0 P t S i n cs Ss X h1 hd hw h2 hk g ws H locs ls sc hle hR
  obtain ⟨hx, hb, hml, hown, hts, hK, hA, hN, hini, hcC, hcS, hf, hlc, hscr⟩ := X
  obtain ⟨pc, L, st, w, K, ce, sl⟩ := S
  unfold ev_ldcS at h1
  dsimp only at h1
  have h2 : some [ev_adv (pc, L, st, w, K, ce, sl) 2 ((5, 1 + 2 * (t.1.toNat : Int)) :: st)] = some Ss := h2
  cases h2
  split at h1
  · rename_i r hr
    split at h1
    · rename_i ho
      cases h1
      obtain ⟨hP, hD, hS, hW, hB, hL, hs⟩ := hR
      have e0 : g.2.1 = g0.2.1 := hle.2.1
      have hz := hN.2.1 _ r hr
      rw [ho] at hz
      exact va_ldcS hx hb hown hz hd (hk _ (List.mem_singleton.mpr rfl) g ws H locs ls _ hle ⟨hP, hD, hS, hW, hB, hL, by rw [← e0]; exact ev_x5, hs⟩)
    · cases h1
  · cases h1
/-- a text, by its value -/
def ev_isS (a : ev_A) : Bool := a.1 == 5 && (decide (a.2.toNat % 2 = 1) && decide (a.2.toNat / 2 < 40))
theorem ev_isS_ok {a : ev_A} {g : ev_G} {v : Value} (h : ev_isS a = true) (hv : ev_v g a = some v) : ∃ r, ev_strs[a.2.toNat / 2]? = some r ∧ a.2.toNat = 1 + 2 * (a.2.toNat / 2) ∧ v = .ref (g.2.1 (1 + 2 * (a.2.toNat / 2))) := by
  simp only [ev_isS, Bool.and_eq_true, beq_iff_eq, decide_eq_true_eq] at h
  obtain ⟨h1, h2, h3⟩ := h
  obtain ⟨t, n⟩ := a
  have h1 : t = 5 := h1
  subst h1
  dsimp only at h2 h3 ⊢
  refine ⟨_, List.getElem?_eq_getElem (show n.toNat / 2 < ev_strs.length from h3), by omega, ?_⟩
  rw [show 1 + 2 * (n.toNat / 2) = n.toNat by omega]
  exact (Option.some.inj hv).symm
def ev_getV : ev_O := (fun P t => some (.getfield t.1.toNat, 3, [.fieldLink P.2.2.2.1 t.1.toNat "java/lang/String" "value" "[B"]), fun _ _ S => match S.2.2.1 with
  | x :: st => if ev_isS x = true then some [ev_adv S 3 ((5, 2 + 2 * ((x.2.toNat / 2 : Nat) : Int)) :: st)] else none
  | _ => none)
theorem ev_x52 {g : ev_G} {k : Nat} : ev_v g (5, 2 + 2 * (k : Int)) = some (.ref (g.2.1 (2 + 2 * k))) := by
  show some (Value.ref (g.2.1 (2 + 2 * (k : Int)).toNat)) = _
  rw [show (2 + 2 * (k : Int)).toNat = 2 + 2 * k by omega]
theorem ev_getV_ok : ev_Snd ev_getV := by
  intro p l e R s m args below meth c cc Q D A g0 P t S i n cs Ss X h1 hd hw h2 hk g ws H locs ls sc hle hR
  obtain ⟨hx, hb, hml, hown, hts, hK, hA, hN, hini, hcC, hcS, hf, hlc, hscr⟩ := X
  obtain ⟨pc, L, st, w, K, ce, sl⟩ := S
  have h1 : some ((.getfield t.1.toNat : Instr), (3 : Nat), ([.fieldLink P.2.2.2.1 t.1.toNat "java/lang/String" "value" "[B"] : List Cond)) = some (i, n, cs) := h1
  cases h1
  unfold ev_getV at h2
  dsimp only at h2
  split at h2
  · rename_i x st'
    split at h2
    · rename_i hc
      cases h2
      obtain ⟨hP, hD, hS, hW, hB, hL, hs⟩ := hR
      obtain ⟨vx, sc1, rfl, hvx, hs1⟩ := ev_s_cons hs
      obtain ⟨r, hr, e1, rfl⟩ := ev_isS_ok hc hvx
      have e0 : g.2.1 = g0.2.1 := hle.2.1
      rw [e0]
      exact vk_getf hx hb (hN.2.2.1 _ r hr).2.2.1 hS hown (hts _ (hw _ (List.mem_singleton.mpr rfl))) (fun _ h => h) hd (hk _ (List.mem_singleton.mpr rfl) g ws H locs ls _ hle ⟨hP, hD, hS, hW, hB, hL, by rw [← e0]; exact ev_x52, hs1⟩)
    · cases h2
  · cases h2
def ev_getC : ev_O := (fun P t => some (.getfield t.1.toNat, 3, [.fieldLink P.2.2.2.1 t.1.toNat "java/lang/String" "coder" "B"]), fun _ _ S => match S.2.2.1 with
  | x :: st => if ev_isS x = true then some [ev_adv S 3 ((0, 0) :: st)] else none
  | _ => none)
theorem ev_getC_ok : ev_Snd ev_getC := by
  intro p l e R s m args below meth c cc Q D A g0 P t S i n cs Ss X h1 hd hw h2 hk g ws H locs ls sc hle hR
  obtain ⟨hx, hb, hml, hown, hts, hK, hA, hN, hini, hcC, hcS, hf, hlc, hscr⟩ := X
  obtain ⟨pc, L, st, w, K, ce, sl⟩ := S
  have h1 : some ((.getfield t.1.toNat : Instr), (3 : Nat), ([.fieldLink P.2.2.2.1 t.1.toNat "java/lang/String" "coder" "B"] : List Cond)) = some (i, n, cs) := h1
  cases h1
  unfold ev_getC at h2
  dsimp only at h2
  split at h2
  · rename_i x st'
    split at h2
    · rename_i hc
      cases h2
      obtain ⟨hP, hD, hS, hW, hB, hL, hs⟩ := hR
      obtain ⟨vx, sc1, rfl, hvx, hs1⟩ := ev_s_cons hs
      obtain ⟨r, hr, e1, rfl⟩ := ev_isS_ok hc hvx
      have e0 : g.2.1 = g0.2.1 := hle.2.1
      rw [e0]
      exact vk_getf hx hb (hN.2.2.1 _ r hr).2.1 hS hown (hts _ (hw _ (List.mem_singleton.mpr rfl))) (fun _ h => h) hd (hk _ (List.mem_singleton.mpr rfl) g ws H locs ls _ hle ⟨hP, hD, hS, hW, hB, hL, rfl, hs1⟩)
    · cases h2
  · cases h2
def ev_gets : ev_O := (fun P t => some (.getstatic t.1.toNat, 3, [.fieldLink P.2.2.2.1 t.1.toNat "java/lang/String" "COMPACT_STRINGS" "Z"]), fun _ _ S => some [ev_adv S 3 ((0, 1) :: S.2.2.1)])
theorem ev_gets_ok : ev_Snd ev_gets := by
  intro p l e R s m args below meth c cc Q D A g0 P t S i n cs Ss X h1 hd hw h2 hk g ws H locs ls sc hle hR
  obtain ⟨hx, hb, hml, hown, hts, hK, hA, hN, hini, hcC, hcS, hf, hlc, hscr⟩ := X
  obtain ⟨pc, L, st, w, K, ce, sl⟩ := S
  have h1 : some ((.getstatic t.1.toNat : Instr), (3 : Nat), ([.fieldLink P.2.2.2.1 t.1.toNat "java/lang/String" "COMPACT_STRINGS" "Z"] : List Cond)) = some (i, n, cs) := h1
  cases h1
  have h2 : some [ev_adv (pc, L, st, w, K, ce, sl) 3 ((0, 1) :: st)] = some Ss := h2
  cases h2
  obtain ⟨hP, hD, hS, hW, hB, hL, hs⟩ := hR
  exact va_gets hx hb hN.2.2.2.1 hS hown (hts _ (hw _ (List.mem_singleton.mpr rfl))) (fun _ h => h) hd (hk _ (List.mem_singleton.mpr rfl) g ws H locs ls _ hle ⟨hP, hD, hS, hW, hB, hL, rfl, hs⟩)
/-- a text's bytes -/
def ev_isY (a : ev_A) : Bool := a.1 == 5 && (decide (a.2.toNat % 2 = 0) && (decide (2 ≤ a.2.toNat) && decide (a.2.toNat / 2 - 1 < 40)))
theorem ev_isY_ok {a : ev_A} {g : ev_G} {v : Value} (h : ev_isY a = true) (hv : ev_v g a = some v) : ∃ r, ev_strs[a.2.toNat / 2 - 1]? = some r ∧ v = .ref (g.2.1 (2 + 2 * (a.2.toNat / 2 - 1))) := by
  simp only [ev_isY, Bool.and_eq_true, beq_iff_eq, decide_eq_true_eq] at h
  obtain ⟨h1, h2, h3, h4⟩ := h
  obtain ⟨t, n⟩ := a
  have h1 : t = 5 := h1
  subst h1
  dsimp only at h2 h3 h4 ⊢
  refine ⟨_, List.getElem?_eq_getElem (show n.toNat / 2 - 1 < ev_strs.length from h4), ?_⟩
  rw [show 2 + 2 * (n.toNat / 2 - 1) = n.toNat by omega]
  exact (Option.some.inj hv).symm
def ev_alenS : ev_O := (fun _ _ => some (.arraylength, 1, []), fun _ _ S => match S.2.2.1 with
  | x :: st => if ev_isY x = true then (match ev_strs[x.2.toNat / 2 - 1]? with
    | some r => some [ev_adv S 1 ((0, (Int32.ofNat r.2.2.2.length).toInt) :: st)]
    | none => none) else none
  | _ => none)
theorem ev_alenS_ok : ev_Snd ev_alenS := by
  intro p l e R s m args below meth c cc Q D A g0 P t S i n cs Ss X h1 hd hw h2 hk g ws H locs ls sc hle hR
  obtain ⟨hx, hb, hml, hown, hts, hK, hA, hN, hini, hcC, hcS, hf, hlc, hscr⟩ := X
  obtain ⟨pc, L, st, w, K, ce, sl⟩ := S
  have h1 : some ((.arraylength : Instr), (1 : Nat), ([] : List Cond)) = some (i, n, cs) := h1
  cases h1
  unfold ev_alenS at h2
  dsimp only at h2
  split at h2
  · rename_i x st'
    split at h2
    · rename_i hc
      split at h2
      · rename_i r hr
        cases h2
        obtain ⟨hP, hD, hS, hW, hB, hL, hs⟩ := hR
        obtain ⟨vx, sc1, rfl, hvx, hs1⟩ := ev_s_cons hs
        obtain ⟨r', hr', rfl⟩ := ev_isY_ok hc hvx
        have e0 : g.2.1 = g0.2.1 := hle.2.1
        rw [e0]
        exact va_tlen hx hb (hN.2.2.1 _ r hr).2.2.2 hS rfl hd (hk _ (List.mem_singleton.mpr rfl) g ws H locs ls _ hle ⟨hP, hD, hS, hW, hB, hL, ev_v0 g _, hs1⟩)
      · cases h2
    · cases h2
  · cases h2
def ev_baloadS : ev_O := (fun _ _ => some (.baload, 1, []), fun _ _ S => match S.2.2.1 with
  | i :: x :: st => if ev_isY x = true then (match ev_strs[x.2.toNat / 2 - 1]? with
    | some r => if i.1 = 0 ∧ 0 ≤ (Int32.ofInt i.2).toInt ∧ (Int32.ofInt i.2).toInt < (r.2.2.2.length : Int) then some [ev_adv S 1 ((0, (r.2.2.2.getD (Int32.ofInt i.2).toNatClampNeg 0).toInt) :: st)] else none
    | none => none) else none
  | _ => none)
theorem ev_baloadS_ok : ev_Snd ev_baloadS := by
  intro p l e R s m args below meth c cc Q D A g0 P t S i n cs Ss X h1 hd hw h2 hk g ws H locs ls sc hle hR
  obtain ⟨hx, hb, hml, hown, hts, hK, hA, hN, hini, hcC, hcS, hf, hlc, hscr⟩ := X
  obtain ⟨pc, L, st, w, K, ce, sl⟩ := S
  have h1 : some ((.baload : Instr), (1 : Nat), ([] : List Cond)) = some (i, n, cs) := h1
  cases h1
  unfold ev_baloadS at h2
  dsimp only at h2
  split at h2
  · rename_i i x st'
    split at h2
    · rename_i hc
      split at h2
      · rename_i r hr
        split at h2
        · rename_i hi
          cases h2
          obtain ⟨hP, hD, hS, hW, hB, hL, hs⟩ := hR
          obtain ⟨vi, sc1, rfl, hvi, hs1⟩ := ev_s_cons hs
          obtain ⟨vx, sc2, rfl, hvx, hs2⟩ := ev_s_cons hs1
          obtain ⟨r', hr', rfl⟩ := ev_isY_ok hc hvx
          obtain ⟨it, iv⟩ := i
          have hi0 : it = 0 := hi.1
          subst hi0
          have hvi : vi = .int (Int32.ofInt iv) := (Option.some.inj hvi).symm
          subst hvi
          have e0 : g.2.1 = g0.2.1 := hle.2.1
          rw [e0]
          exact va_tb hx hb (hN.2.2.1 _ r hr).2.2.2 hS (by rw [vp_in_iff]; exact hi.2) rfl hd (hk _ (List.mem_singleton.mpr rfl) g ws H locs ls _ hle ⟨hP, hD, hS, hW, hB, hL, ev_v0 g _, hs2⟩)
        · cases h2
      · cases h2
    · cases h2
  · cases h2
def ev_i2c : ev_O := (fun _ _ => some (.i2c, 1, []), fun _ _ S => ev_una (fun x => (x.toUInt32 % 65536).toInt32) 1 ev_full S)
theorem ev_i2c_ok : ev_Snd ev_i2c := by
  intro p l e R s m args below meth c cc Q D A g0 P t S i n cs Ss X h1 hd hw h2 hk g ws H locs ls sc hle hR
  obtain ⟨hx, hb, hml, hown, hts, hK, hA, hN, hini, hcC, hcS, hf, hlc, hscr⟩ := X
  obtain ⟨pc, L, st, w, K, ce, sl⟩ := S
  have h1 : some ((.i2c : Instr), (1 : Nat), ([] : List Cond)) = some (i, n, cs) := h1
  cases h1
  obtain ⟨x0, rest, S', rfl, rfl, e1, e2, g', l1, hR'⟩ := ev_una_ok (fun x => (x.toUInt32 % 65536).toInt32) ev_full (fun _ => ev_full_ok _) (show ev_una (fun x => (x.toUInt32 % 65536).toInt32) 1 ev_full (pc, L, st, w, K, ce, sl) = some Ss from h2) hR
  exact lv_i2c hx hb hd rfl (ev_Go_eq (hk S' (List.mem_singleton.mpr rfl)) e1 e2 (ev_le_tr hle l1) hR')

/-! longs -/
def ev_binL (f : Int64 → Int64 → Int64) (nz : Bool) (S : ev_S) : Option (List ev_S) := match S.2.2.1 with
  | y :: x :: st =>
    if ev_isL x = true ∧ ev_isL y = true then
      (if x.1 = 4 ∧ y.1 = 4 then (if nz = false ∨ ¬ Int64.ofInt y.2 = 0 then some [ev_adv S 1 ((4, (f (Int64.ofInt x.2) (Int64.ofInt y.2)).toInt) :: st)] else none)
       else if nz = false then some [ev_advK S 1 ((6, (S.2.2.2.2.1.length : Int)) :: st) ev_full] else none)
    else none
  | _ => none
theorem ev_binL_ok (f : Int64 → Int64 → Int64) (nz : Bool) {pc : Nat} {L : List (Nat × ev_A)} {st : List ev_A} {w : List ev_C} {K : ev_K} {ce sl : Nat} {Ss : List ev_S} (h : ev_binL f nz (pc, L, st, w, K, ce, sl) = some Ss)
    {s : State} {A : Nat → Prop} {D : va_G} {nL : Nat} {g : ev_G} {ws : va_W} {H : Heap} {locs : List Loc} {ls : Array Slot} {sc : List Value} (hR : ev_R s A D nL g (pc, L, st, w, K, ce, sl) ws H locs ls sc) :
    ∃ (x y : Int64) (rest : List Value) (S' : ev_S), sc = .long y :: .long x :: rest ∧ (nz = false ∨ ¬ y = 0) ∧ Ss = [S'] ∧ S'.1 = pc + 1 ∧ S'.2.2.2.2.2 = (ce, sl) ∧ ∃ g', ev_le g g' ∧ ev_R s A D nL g' S' ws H locs ls (.long (f x y) :: rest) := by
  unfold ev_binL at h
  split at h
  · rename_i y x st' e
    dsimp only at e
    subst e
    split at h
    · rename_i hi
      have hR0 := hR
      obtain ⟨hP, hD, hS, hW, hB, hL, hs⟩ := hR0
      obtain ⟨vy, sc1, rfl, hvy, hs1⟩ := ev_s_cons hs
      obtain ⟨vx, sc2, rfl, hvx, hs2⟩ := ev_s_cons hs1
      obtain ⟨y0, rfl⟩ := ev_vL hi.2 hvy
      obtain ⟨x0, rfl⟩ := ev_vL hi.1 hvx
      split at h
      · rename_i hz
        split at h
        · rename_i hy
          cases h
          obtain ⟨xt, xn⟩ := x
          obtain ⟨yt, yn⟩ := y
          obtain ⟨rfl, rfl⟩ := hz
          have ex : Int64.ofInt xn = x0 := Value.long.inj (Option.some.inj hvx)
          have ey : Int64.ofInt yn = y0 := Value.long.inj (Option.some.inj hvy)
          dsimp only at hy ⊢
          rw [ex, ey]
          exact ⟨x0, y0, sc2, _, rfl, by rw [← ey]; exact hy, rfl, rfl, rfl, g, ev_le_rf g, hP, hD, hS, hW, hB, hL, ev_v4 g _, hs2⟩
        · cases h
      · split at h
        · rename_i hz
          cases h
          obtain ⟨g', l1, ⟨hP, hD, hS, hW, hB, hL, hs⟩, e1⟩ := ev_fresh hR (.long (f x0 y0)) ev_full (fun z hz => by cases hz)
          exact ⟨x0, y0, sc2, _, rfl, Or.inl hz, rfl, rfl, rfl, g', l1, hP, hD, hS, hW, hB, hL, ev_v6 e1, hs.2.2⟩
        · cases h
    · cases h
  · cases h

def ev_ladd : ev_O := (fun _ _ => some (.ladd, 1, []), fun _ _ S => ev_binL (fun x y => x + y) false S)
theorem ev_ladd_ok : ev_Snd ev_ladd := by
  intro p l e R s m args below meth c cc Q D A g0 P t S i n cs Ss X h1 hd hw h2 hk g ws H locs ls sc hle hR
  obtain ⟨hx, hb, hml, hown, hts, hK, hA, hN, hini, hcC, hcS, hf, hlc, hscr⟩ := X
  obtain ⟨pc, L, st, w, K, ce, sl⟩ := S
  have h1 : some ((.ladd : Instr), (1 : Nat), ([] : List Cond)) = some (i, n, cs) := h1
  cases h1
  obtain ⟨x0, y0, rest, S', rfl, hy, rfl, e1, e2, g', l1, hR'⟩ := ev_binL_ok (fun x y => x + y) false (show ev_binL (fun x y => x + y) false (pc, L, st, w, K, ce, sl) = some Ss from h2) hR
  exact lv_ladd hx hb hd (ev_Go_eq (hk S' (List.mem_singleton.mpr rfl)) e1 e2 (ev_le_tr hle l1) hR')

def ev_lsub : ev_O := (fun _ _ => some (.lsub, 1, []), fun _ _ S => ev_binL (fun x y => x - y) false S)
theorem ev_lsub_ok : ev_Snd ev_lsub := by
  intro p l e R s m args below meth c cc Q D A g0 P t S i n cs Ss X h1 hd hw h2 hk g ws H locs ls sc hle hR
  obtain ⟨hx, hb, hml, hown, hts, hK, hA, hN, hini, hcC, hcS, hf, hlc, hscr⟩ := X
  obtain ⟨pc, L, st, w, K, ce, sl⟩ := S
  have h1 : some ((.lsub : Instr), (1 : Nat), ([] : List Cond)) = some (i, n, cs) := h1
  cases h1
  obtain ⟨x0, y0, rest, S', rfl, hy, rfl, e1, e2, g', l1, hR'⟩ := ev_binL_ok (fun x y => x - y) false (show ev_binL (fun x y => x - y) false (pc, L, st, w, K, ce, sl) = some Ss from h2) hR
  exact lv_lsub hx hb hd (ev_Go_eq (hk S' (List.mem_singleton.mpr rfl)) e1 e2 (ev_le_tr hle l1) hR')

def ev_lmul : ev_O := (fun _ _ => some (.lmul, 1, []), fun _ _ S => ev_binL (fun x y => x * y) false S)
theorem ev_lmul_ok : ev_Snd ev_lmul := by
  intro p l e R s m args below meth c cc Q D A g0 P t S i n cs Ss X h1 hd hw h2 hk g ws H locs ls sc hle hR
  obtain ⟨hx, hb, hml, hown, hts, hK, hA, hN, hini, hcC, hcS, hf, hlc, hscr⟩ := X
  obtain ⟨pc, L, st, w, K, ce, sl⟩ := S
  have h1 : some ((.lmul : Instr), (1 : Nat), ([] : List Cond)) = some (i, n, cs) := h1
  cases h1
  obtain ⟨x0, y0, rest, S', rfl, hy, rfl, e1, e2, g', l1, hR'⟩ := ev_binL_ok (fun x y => x * y) false (show ev_binL (fun x y => x * y) false (pc, L, st, w, K, ce, sl) = some Ss from h2) hR
  exact lv_lmul hx hb hd (ev_Go_eq (hk S' (List.mem_singleton.mpr rfl)) e1 e2 (ev_le_tr hle l1) hR')

def ev_ldiv : ev_O := (fun _ _ => some (.ldiv, 1, []), fun _ _ S => ev_binL (fun x y => x / y) true S)
theorem ev_ldiv_ok : ev_Snd ev_ldiv := by
  intro p l e R s m args below meth c cc Q D A g0 P t S i n cs Ss X h1 hd hw h2 hk g ws H locs ls sc hle hR
  obtain ⟨hx, hb, hml, hown, hts, hK, hA, hN, hini, hcC, hcS, hf, hlc, hscr⟩ := X
  obtain ⟨pc, L, st, w, K, ce, sl⟩ := S
  have h1 : some ((.ldiv : Instr), (1 : Nat), ([] : List Cond)) = some (i, n, cs) := h1
  cases h1
  obtain ⟨x0, y0, rest, S', rfl, hy, rfl, e1, e2, g', l1, hR'⟩ := ev_binL_ok (fun x y => x / y) true (show ev_binL (fun x y => x / y) true (pc, L, st, w, K, ce, sl) = some Ss from h2) hR
  exact lv_ldiv hx hb hd (by rcases hy with hy | hy; cases hy; exact hy) (ev_Go_eq (hk S' (List.mem_singleton.mpr rfl)) e1 e2 (ev_le_tr hle l1) hR')

def ev_lrem : ev_O := (fun _ _ => some (.lrem, 1, []), fun _ _ S => ev_binL (fun x y => x - x / y * y) true S)
theorem ev_lrem_ok : ev_Snd ev_lrem := by
  intro p l e R s m args below meth c cc Q D A g0 P t S i n cs Ss X h1 hd hw h2 hk g ws H locs ls sc hle hR
  obtain ⟨hx, hb, hml, hown, hts, hK, hA, hN, hini, hcC, hcS, hf, hlc, hscr⟩ := X
  obtain ⟨pc, L, st, w, K, ce, sl⟩ := S
  have h1 : some ((.lrem : Instr), (1 : Nat), ([] : List Cond)) = some (i, n, cs) := h1
  cases h1
  obtain ⟨x0, y0, rest, S', rfl, hy, rfl, e1, e2, g', l1, hR'⟩ := ev_binL_ok (fun x y => x - x / y * y) true (show ev_binL (fun x y => x - x / y * y) true (pc, L, st, w, K, ce, sl) = some Ss from h2) hR
  exact lv_lrem hx hb hd (by rcases hy with hy | hy; cases hy; exact hy) (ev_Go_eq (hk S' (List.mem_singleton.mpr rfl)) e1 e2 (ev_le_tr hle l1) hR')

def ev_ldc2 : ev_O := (fun P t => some (.ldc2_w t.2.1.toNat, 3, [.constantLong P.2.2.2.1 t.2.1.toNat (Int64.ofInt t.1)]), fun _ t S => some [ev_adv S 3 ((4, (Int64.ofInt t.1).toInt) :: S.2.2.1)])
theorem ev_ldc2_ok : ev_Snd ev_ldc2 := by
  intro p l e R s m args below meth c cc Q D A g0 P t S i n cs Ss X h1 hd hw h2 hk g ws H locs ls sc hle hR
  obtain ⟨hx, hb, hml, hown, hts, hK, hA, hN, hini, hcC, hcS, hf, hlc, hscr⟩ := X
  obtain ⟨pc, L, st, w, K, ce, sl⟩ := S
  have h1 : some ((.ldc2_w t.2.1.toNat : Instr), (3 : Nat), ([.constantLong P.2.2.2.1 t.2.1.toNat (Int64.ofInt t.1)] : List Cond)) = some (i, n, cs) := h1
  cases h1
  have h2 : some [ev_adv (pc, L, st, w, K, ce, sl) 3 ((4, (Int64.ofInt t.1).toInt) :: st)] = some Ss := h2
  cases h2
  obtain ⟨hP, hD, hS, hW, hB, hL, hs⟩ := hR
  exact W.ldc2 hx hb hown (hts _ (hw _ (List.mem_singleton.mpr rfl))) (g := F0 m pc ls sc) rfl hd (hk _ (List.mem_singleton.mpr rfl) g ws H locs ls _ hle ⟨hP, hD, hS, hW, hB, hL, ev_v4 g _, hs⟩)

/-- a static of which only this is known: null, or a cell -/
def ev_getsF : ev_O := (fun P t => some (.getstatic t.1.toNat, 3, [.fieldLink P.2.2.2.1 t.1.toNat "jdk/internal/util/Preconditions" "SIOOBE_FORMATTER" "Ljava/util/function/BiFunction;"]), fun _ _ S => some [ev_advK S 3 ((7, (S.2.2.2.2.1.length : Int)) :: S.2.2.1) ev_full])
theorem ev_getsF_ok : ev_Snd ev_getsF := by
  intro p l e R s m args below meth c cc Q D A g0 P t S i n cs Ss X h1 hd hw h2 hk g ws H locs ls sc hle hR
  obtain ⟨hx, hb, hml, hown, hts, hK, hA, hN, hini, hcC, hcS, hf, hlc, hscr⟩ := X
  obtain ⟨pc, L, st, w, K, ce, sl⟩ := S
  have h1 : some ((.getstatic t.1.toNat : Instr), (3 : Nat), ([.fieldLink P.2.2.2.1 t.1.toNat "jdk/internal/util/Preconditions" "SIOOBE_FORMATTER" "Ljava/util/function/BiFunction;"] : List Cond)) = some (i, n, cs) := h1
  cases h1
  have h2 : some [ev_advK (pc, L, st, w, K, ce, sl) 3 ((7, (K.length : Int)) :: st) ev_full] = some Ss := h2
  cases h2
  rcases hN.2.2.2.2 with hz | ⟨q, hz⟩
  · obtain ⟨g', l1, ⟨hP, hD, hS, hW, hB, hL, hs⟩, e1⟩ := ev_fresh hR .null ev_full (fun z hz => by cases hz)
    exact va_gets hx hb hz hS hown (hts _ (hw _ (List.mem_singleton.mpr rfl))) (fun _ h => h) hd (hk _ (List.mem_singleton.mpr rfl) g' ws H locs ls _ (ev_le_tr hle l1) ⟨hP, hD, hS, hW, hB, hL, by simp [ev_v, e1], hs⟩)
  · obtain ⟨g', l1, ⟨hP, hD, hS, hW, hB, hL, hs⟩, e1⟩ := ev_fresh hR (.ref q) ev_full (fun z hz => by cases hz)
    exact va_gets hx hb hz hS hown (hts _ (hw _ (List.mem_singleton.mpr rfl))) (fun _ h => h) hd (hk _ (List.mem_singleton.mpr rfl) g' ws H locs ls _ (ev_le_tr hle l1) ⟨hP, hD, hS, hW, hB, hL, by simp [ev_v, e1], hs⟩)

def ev_ldcw : ev_O := (fun P t => some (.ldc_w t.2.1.toNat, 3, [.constant P.2.2.2.1 t.2.1.toNat (Int32.ofInt t.1)]), fun _ t S => some [ev_adv S 3 ((0, (Int32.ofInt t.1).toInt) :: S.2.2.1)])
theorem ev_ldcw_ok : ev_Snd ev_ldcw := by
  intro p l e R s m args below meth c cc Q D A g0 P t S i n cs Ss X h1 hd hw h2 hk g ws H locs ls sc hle hR
  obtain ⟨hx, hb, hml, hown, hts, hK, hA, hN, hini, hcC, hcS, hf, hlc, hscr⟩ := X
  obtain ⟨pc, L, st, w, K, ce, sl⟩ := S
  have h1 : some ((.ldc_w t.2.1.toNat : Instr), (3 : Nat), ([.constant P.2.2.2.1 t.2.1.toNat (Int32.ofInt t.1)] : List Cond)) = some (i, n, cs) := h1
  cases h1
  have h2 : some [ev_adv (pc, L, st, w, K, ce, sl) 3 ((0, (Int32.ofInt t.1).toInt) :: st)] = some Ss := h2
  cases h2
  obtain ⟨hP, hD, hS, hW, hB, hL, hs⟩ := hR
  exact lv_ldcw hx hb hown (hts _ (hw _ (List.mem_singleton.mpr rfl))) hd (hk _ (List.mem_singleton.mpr rfl) g ws H locs ls _ hle ⟨hP, hD, hS, hW, hB, hL, ev_v0 g _, hs⟩)
/-! THE RUN: rows of a method by their places, calls, ends -/
abbrev ev_Row : Type := Nat × ev_T
abbrev ev_MI : Type := MethodName × ByteArray × Nat × Option FieldType × Nat × Nat × List (Nat × ev_Row)
abbrev ev_Out : Type := Option ev_A × List ev_C × ev_K
def ev_ops : List ev_O := [ev_iconst, ev_bipush, ev_sipush, ev_lconst, ev_iload, ev_iloadn, ev_lload, ev_lloadn, ev_aload, ev_aloadn, ev_istore, ev_istoren, ev_lstore, ev_lstoren, ev_astore, ev_astoren,
  ev_iadd, ev_isub, ev_imul, ev_iand, ev_ior, ev_ixor, ev_ishl, ev_ishr, ev_iushr, ev_idiv, ev_irem, ev_ineg, ev_i2b, ev_i2l, ev_lcmp, ev_dup, ev_pop, ev_dup2, ev_iinc,
  ev_icmp_eq, ev_icmp_ne, ev_icmp_lt, ev_icmp_ge, ev_icmp_gt, ev_icmp_le, ev_if_eq, ev_if_ne, ev_if_lt, ev_if_ge, ev_if_gt, ev_if_le, ev_goto, ev_sw,
  ev_get, ev_put, ev_putF, ev_iaload, ev_baload, ev_laload, ev_aaload, ev_iastore, ev_bastore, ev_newI, ev_newB, ev_newJ, ev_newQ, ev_new, ev_aastore, ev_alen, ev_sald, ev_oinit, ev_mmin, ev_ldc, ev_ldcS, ev_getV, ev_getC, ev_gets, ev_alenS, ev_baloadS, ev_i2c, ev_ladd, ev_lsub, ev_lmul, ev_ldiv, ev_lrem, ev_ldc2, ev_getsF, ev_ldcw]
theorem ev_c1 {o : ev_O} {l : List ev_O} (h : ev_Snd o) (h2 : ∀ o ∈ l, ev_Snd o) : ∀ o' ∈ o :: l, ev_Snd o' := List.forall_mem_cons.mpr ⟨h, h2⟩
theorem ev_ops_ok : ∀ o ∈ ev_ops, ev_Snd o :=
  ev_c1 ev_iconst_ok (ev_c1 ev_bipush_ok (ev_c1 ev_sipush_ok (ev_c1 ev_lconst_ok (ev_c1 ev_iload_ok (ev_c1 ev_iloadn_ok (ev_c1 ev_lload_ok (ev_c1 ev_lloadn_ok (ev_c1 ev_aload_ok (ev_c1 ev_aloadn_ok (ev_c1 ev_istore_ok (ev_c1 ev_istoren_ok (ev_c1 ev_lstore_ok (ev_c1 ev_lstoren_ok (ev_c1 ev_astore_ok (ev_c1 ev_astoren_ok
  (ev_c1 ev_iadd_ok (ev_c1 ev_isub_ok (ev_c1 ev_imul_ok (ev_c1 ev_iand_ok (ev_c1 ev_ior_ok (ev_c1 ev_ixor_ok (ev_c1 ev_ishl_ok (ev_c1 ev_ishr_ok (ev_c1 ev_iushr_ok (ev_c1 ev_idiv_ok (ev_c1 ev_irem_ok (ev_c1 ev_ineg_ok (ev_c1 ev_i2b_ok (ev_c1 ev_i2l_ok (ev_c1 ev_lcmp_ok (ev_c1 ev_dup_ok (ev_c1 ev_pop_ok (ev_c1 ev_dup2_ok (ev_c1 ev_iinc_ok
  (ev_c1 ev_icmp_eq_ok (ev_c1 ev_icmp_ne_ok (ev_c1 ev_icmp_lt_ok (ev_c1 ev_icmp_ge_ok (ev_c1 ev_icmp_gt_ok (ev_c1 ev_icmp_le_ok (ev_c1 ev_if_eq_ok (ev_c1 ev_if_ne_ok (ev_c1 ev_if_lt_ok (ev_c1 ev_if_ge_ok (ev_c1 ev_if_gt_ok (ev_c1 ev_if_le_ok (ev_c1 ev_goto_ok (ev_c1 ev_sw_ok
  (ev_c1 ev_get_ok (ev_c1 ev_put_ok (ev_c1 ev_putF_ok (ev_c1 ev_iaload_ok (ev_c1 ev_baload_ok (ev_c1 ev_laload_ok (ev_c1 ev_aaload_ok (ev_c1 ev_iastore_ok (ev_c1 ev_bastore_ok (ev_c1 ev_newI_ok (ev_c1 ev_newB_ok (ev_c1 ev_newJ_ok (ev_c1 ev_newQ_ok (ev_c1 ev_new_ok (ev_c1 ev_aastore_ok (ev_c1 ev_alen_ok (ev_c1 ev_sald_ok (ev_c1 ev_oinit_ok (ev_c1 ev_mmin_ok (ev_c1 ev_ldc_ok (ev_c1 ev_ldcS_ok (ev_c1 ev_getV_ok (ev_c1 ev_getC_ok (ev_c1 ev_gets_ok (ev_c1 ev_alenS_ok (ev_c1 ev_baloadS_ok (ev_c1 ev_i2c_ok (ev_c1 ev_ladd_ok (ev_c1 ev_lsub_ok (ev_c1 ev_lmul_ok (ev_c1 ev_ldiv_ok (ev_c1 ev_lrem_ok (ev_c1 ev_ldc2_ok (ev_c1 ev_getsF_ok (ev_c1 ev_ldcw_ok (fun _ h => nomatch h))))))))))))))))))))))))))))))))))))))))))))))))))))))))))))))))))))))))))))))))))))
def ev_at {α : Type} : List (Nat × α) → Nat → Option α
  | [], _ => none
  | q :: l, i => cond (Nat.beq q.1 i) (some q.2) (ev_at l i)
theorem ev_at_mem {α : Type} : ∀ {l : List (Nat × α)} {i : Nat} {a : α}, ev_at l i = some a → (i, a) ∈ l
  | [], i, a, h => by cases h
  | q :: l, i, a, h => by
    unfold ev_at at h
    cases hq : Nat.beq q.1 i with
    | true =>
      rw [hq] at h
      have h : some q.2 = some a := h
      cases h
      rw [← Nat.eq_of_beq_eq_true hq]
      exact List.mem_cons_self
    | false =>
      rw [hq] at h
      exact List.mem_cons_of_mem _ (ev_at_mem h)
/-- what an instruction's row says: the instruction, its length, the words that it needs -/
def ev_rowI (ms : List ev_MI) (P : ev_P) (r : ev_Row) : Option (Instr × Nat × List Cond) :=
  match r.1 with
  | 200 => (match ms[r.2.1.toNat]? with
    | some mi => some (.invokevirtual r.2.2.1.toNat, 3, [.methodLink P.2.2.2.1 r.2.2.1.toNat mi.1, .instanceMethod mi.1, .selects mi.1.cls mi.1 mi.1, .initialized mi.1.cls])
    | none => none)
  | 201 => (match ms[r.2.1.toNat]? with
    | some mi => some (.invokestatic r.2.2.1.toNat, 3, [.methodLink P.2.2.2.1 r.2.2.1.toNat mi.1, .static mi.1, .initialized mi.1.cls])
    | none => none)
  | 202 => (match ms[r.2.1.toNat]? with
    | some mi => some (.invokespecial r.2.2.1.toNat, 3, [.methodLink P.2.2.2.1 r.2.2.1.toNat mi.1, .instanceMethod mi.1, .initialized mi.1.cls])
    | none => none)
  | 203 => (match ms[r.2.1.toNat]? with
    | some mi => some (.invokespecial r.2.2.1.toNat, 3, [.instanceMethod mi.1, .initialized mi.1.cls])
    | none => none)
  | 210 => some (.ireturn, 1, [])
  | 211 => some (.lreturn, 1, [])
  | 212 => some (.areturn, 1, [])
  | 213 => some (.return_, 1, [])
  | k => (match ev_ops[k]? with
    | some o => o.1 P r.2
    | none => none)
/-- a row is right: the instruction stands there, the tables have its words; a nest mate's private constructor by its link -/
def ev_RowOK (ms : List ev_MI) (P : ev_P) (cc : ByteArray) (q : Nat × ev_Row) : Prop :=
  (∃ i n cs, ev_rowI ms P q.2 = some (i, n, cs) ∧ decode cc q.1 = .ok (i, n) ∧ ∀ w ∈ cs, w ∈ lw_good) ∧ (q.2.1 = 203 → ∀ mi, ms[q.2.2.1.toNat]? = some mi → Cond.methodLinkNest P.2.2.2.1 q.2.2.2.1.toNat mi.1 "BarberMinutes" ∈ lw_nest)
/-- a method is right -/
def ev_MOK (ms : List ev_MI) (mi : ev_MI) : Prop :=
  plainName mi.1.cls = true ∧ Cond.code mi.1 mi.2.1 mi.2.2.1 mi.2.2.2.1 ∈ lw_good ∧ mi.2.2.1 ≤ 21 ∧ (mi.1.cls ≠ "java/lang/invoke/MethodHandle" ∧ mi.1.cls ≠ "java/lang/invoke/VarHandle") ∧
  ∀ q ∈ mi.2.2.2.2.2.2, ev_RowOK ms (mi.2.2.2.2.1, mi.2.2.2.2.2.1, decide (mi.1.name = "<init>"), mi.1.cls, mi.2.2.1, 0) mi.2.1 q
def ev_args : Nat → List ev_A → List (Nat × ev_A)
  | _, [] => []
  | i, a :: as => (i, a) :: ev_args (i + if ev_isL a = true then 2 else 1) as
def ev_all (f : ev_S → Option (List ev_S)) : List ev_S → Option (List ev_S)
  | [] => some []
  | S :: r => match f S with
    | some a => (match ev_all f r with
      | some b => some (a ++ b)
      | none => none)
    | none => none
theorem ev_all_ok {f : ev_S → Option (List ev_S)} : ∀ {Ss o : List ev_S}, ev_all f Ss = some o → ∀ S ∈ Ss, ∃ o', f S = some o' ∧ ∀ x ∈ o', x ∈ o
  | [], o, h => fun S hS => nomatch hS
  | S :: r, o, h => by
    unfold ev_all at h
    split at h
    · rename_i a ha
      split at h
      · rename_i b hb
        cases h
        intro S' hS'
        rcases List.mem_cons.mp hS' with rfl | hS'
        · exact ⟨a, ha, fun x hx => List.mem_append_left _ hx⟩
        · obtain ⟨o', h1, h2⟩ := ev_all_ok hb S' hS'
          exact ⟨o', h1, fun x hx => List.mem_append_right _ (h2 x hx)⟩
      · cases h
    · cases h
/-- how many words a call's descriptor takes: told by its row, held against the descriptor -/
def ev_nar1 (y : MethodName) (n : Nat) : Bool := decide ((parseMethodDescriptor y.desc).map (fun d => d.parameters.length) = some n)
/-- a call: what it takes off the stack -/
def ev_take (recv : Bool) (n : Nat) (st : List ev_A) : Option (List ev_A × List ev_A) :=
  if recv = true then (match st.drop n with
    | x :: rest => if (st.take n).length = n then some (x :: (st.take n).reverse, rest) else none
    | [] => none)
  else (if (st.take n).length = n then some ((st.take n).reverse, st.drop n) else none)
def ev_c5 (op : Nat) (as : List ev_A) (w : List ev_C) (cls : String) : Bool := if op = 200 then (match as with
    | x :: _ => if x.1 = 5 then (decide (x.2.toNat % 2 = 1) && (decide (x.2.toNat / 2 < 40) && decide (cls = "java/lang/String"))) else (match w[x.2.toNat]? with
      | some cl => decide (x.1 = 1) && decide ((vwCl[cl.1]?).map (fun q => q.1) = some cls)
      | none => false)
    | [] => false) else true
def ev_c6 (op : Nat) (as : List ev_A) (mi : ev_MI) : Bool := if op = 202 ∨ op = 203 then decide (mi.1.name = "<init>") && mi.2.2.2.1.isNone && (match as with
    | x :: _ => ev_isR x
    | [] => false) else true
def ev_inv (ms : List ev_MI) (call : Nat → List ev_A → List ev_C → ev_K → Option (List ev_Out)) (P : ev_P) (r : ev_Row) (S : ev_S) : Option (List ev_S) :=
  match ms[r.2.1.toNat]? with
  | some mi => (match ev_take (!(r.1 == 201)) r.2.2.2.1.toNat S.2.2.1 with
    | some (as, rest) =>
      if ev_cs rest ≤ 8 ∧ S.2.2.2.2.2.1 + mi.2.2.2.2.1 ≤ P.1 ∧ S.2.2.2.2.2.2 + mi.2.2.2.2.2.1 ≤ P.2.1 ∧ ev_nar1 mi.1 r.2.2.2.1.toNat = true
        ∧ ev_c5 r.1 as S.2.2.2.1 mi.1.cls = true ∧ ev_c6 r.1 as mi = true
      then (match call r.2.1.toNat as S.2.2.2.1 S.2.2.2.2.1 with
        | some outs => some (outs.map (fun o => (S.1 + 3, S.2.1, o.1.toList ++ rest, o.2.1, o.2.2, S.2.2.2.2.2.1 + mi.2.2.2.2.1, S.2.2.2.2.2.2 + mi.2.2.2.2.2.1)))
        | none => none)
      else none
    | none => none)
  | none => none
def ev_run (ms : List ev_MI) (call : Nat → List ev_A → List ev_C → ev_K → Option (List ev_Out)) (P : ev_P) (rows : List (Nat × ev_Row)) (stops : List Nat) : Nat → ev_S → Option (List ev_S)
  | 0, _ => none
  | n + 1, S =>
    if stops.contains S.1 = true then some [S] else
    match ev_at rows S.1 with
    | none => none
    | some r =>
      if 210 ≤ r.1 then some [S]
      else if 200 ≤ r.1 then (match ev_inv ms call P r S with
        | some Ss => ev_all (ev_run ms call P rows stops n) Ss
        | none => none)
      else (match ev_ops[r.1]? with
        | some o => (match o.2 P r.2 S with
          | some Ss => ev_all (ev_run ms call P rows stops n) Ss
          | none => none)
        | none => none)
/-- a method's end: what it answers -/
def ev_end (ret : Option FieldType) (mc ms : Nat) (rows : List (Nat × ev_Row)) (S : ev_S) : Option ev_Out :=
  if S.2.2.2.2.2.1 ≤ mc ∧ S.2.2.2.2.2.2 ≤ ms then
    match ev_at rows S.1 with
    | none => none
    | some r => match r.1, ret, S.2.2.1 with
      | 210, some ty, [a] => if ev_isI a = true ∧ ev_fit ty a = true then some (some a, S.2.2.2.1, S.2.2.2.2.1) else none
      | 211, some .long, [a] => if ev_isL a = true then some (some a, S.2.2.2.1, S.2.2.2.2.1) else none
      | 212, some (.object _), [a] => if (a.1 == 1 || a.1 == 2 || a.1 == 5) = true then some (some a, S.2.2.2.1, S.2.2.2.2.1) else none
      | 213, none, [] => some (none, S.2.2.2.1, S.2.2.2.2.1)
      | _, _, _ => none
  else none
def ev_ends (ret : Option FieldType) (mc ms : Nat) (rows : List (Nat × ev_Row)) : List ev_S → Option (List ev_Out)
  | [] => some []
  | S :: r => match ev_end ret mc ms rows S with
    | some a => (match ev_ends ret mc ms rows r with
      | some b => some (a :: b)
      | none => none)
    | none => none
theorem ev_ends_ok {ret : Option FieldType} {mc ms : Nat} {rows : List (Nat × ev_Row)} : ∀ {Ss : List ev_S} {o : List ev_Out}, ev_ends ret mc ms rows Ss = some o → ∀ S ∈ Ss, ∃ x, ev_end ret mc ms rows S = some x ∧ x ∈ o
  | [], o, h => fun S hS => nomatch hS
  | S :: r, o, h => by
    unfold ev_ends at h
    split at h
    · rename_i a ha
      split at h
      · rename_i b hb
        cases h
        intro S' hS'
        rcases List.mem_cons.mp hS' with rfl | hS'
        · exact ⟨a, ha, List.mem_cons_self⟩
        · obtain ⟨x, h1, h2⟩ := ev_ends_ok hb S' hS'
          exact ⟨x, h1, List.mem_cons_of_mem _ h2⟩
      · cases h
    · cases h
def ev_exec (ms : List ev_MI) : Nat → Nat → List ev_A → List ev_C → ev_K → Option (List ev_Out)
  | 0, _, _, _, _ => none
  | d + 1, k, as, w, K => match ms[k]? with
    | none => none
    | some mi => if ev_cs as ≤ mi.2.2.1 then (match ev_run ms (ev_exec ms d) (mi.2.2.2.2.1, mi.2.2.2.2.2.1, decide (mi.1.name = "<init>"), mi.1.cls, mi.2.2.1, 0) mi.2.2.2.2.2.2 [] 20000 (0, ev_args 0 as, [], w, K, 0, 0) with
      | some fs => ev_ends mi.2.2.2.1 mi.2.2.2.2.1 mi.2.2.2.2.2.1 mi.2.2.2.2.2.2 fs
      | none => none) else none
