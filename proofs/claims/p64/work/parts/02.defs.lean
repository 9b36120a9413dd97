/-! names, fields -/
def RX0 : String := "NightPorter$Bytes"
def TX0 : u_T := fun k => match k with
  | 0 => ("NightPorter$Bytes", "bytes", "[I", true)
  | _ => ("NightPorter$Bytes", "length", "I", false)
def tyX0 : Nat → FieldType := fun k => match k with
  | 0 => .array .int
  | _ => .int
abbrev wsX00 : List Cond := u_ws RX0 TX0 2
theorem nmX0 : ∀ a, a < 2 → ∀ b, b < 2 → a ≠ b → (TX0 a).2.1 ≠ (TX0 b).2.1 := by decide +kernel
theorem tyX0_ok : ∀ k, k < 2 → parseFieldDescriptor (TX0 k).2.2.1 = some (tyX0 k) := by decide +kernel
abbrev cX0_init : ByteArray := prog_2_method_1_code
def yX0_init : MethodName := ⟨RX0, "<init>", "()V"⟩
abbrev cX0_add : ByteArray := prog_2_method_2_code
def yX0_add : MethodName := ⟨RX0, "add", "(I)V"⟩
abbrev cX0_addFour : ByteArray := prog_2_method_3_code
def yX0_addFour : MethodName := ⟨RX0, "addFour", "(I)V"⟩
abbrev cX0_addText : ByteArray := prog_2_method_4_code
def yX0_addText : MethodName := ⟨RX0, "addText", "(Ljava/lang/String;)V"⟩
abbrev cX0_addMinute : ByteArray := prog_2_method_5_code
def yX0_addMinute : MethodName := ⟨RX0, "addMinute", "(I)V"⟩
abbrev cX0_isName : ByteArray := prog_2_method_6_code
def yX0_isName : MethodName := ⟨RX0, "isName", "()Z"⟩
def RX1 : String := "NightPorter$Guests"
def TX1 : u_T := fun k => match k with
  | 0 => ("NightPorter$Guests", "count", "I", false)
  | 1 => ("NightPorter$Guests", "letters", "[I", true)
  | 2 => ("NightPorter$Guests", "nameLengths", "[I", true)
  | 3 => ("NightPorter$Guests", "generosities", "[I", true)
  | 4 => ("NightPorter$Guests", "barks", "[I", true)
  | 5 => ("NightPorter$Guests", "leftAt", "[I", true)
  | 6 => ("NightPorter$Guests", "soaks", "[I", true)
  | 7 => ("NightPorter$Guests", "walks", "[I", true)
  | _ => ("NightPorter$Guests", "walkedAt", "[I", true)
def tyX1 : Nat → FieldType := fun k => match k with
  | 0 => .int
  | 1 => .array .int
  | 2 => .array .int
  | 3 => .array .int
  | 4 => .array .int
  | 5 => .array .int
  | 6 => .array .int
  | 7 => .array .int
  | _ => .array .int
abbrev wsX10 : List Cond := u_ws RX1 TX1 9
theorem nmX1 : ∀ a, a < 9 → ∀ b, b < 9 → a ≠ b → (TX1 a).2.1 ≠ (TX1 b).2.1 := by decide +kernel
theorem tyX1_ok : ∀ k, k < 9 → parseFieldDescriptor (TX1 k).2.2.1 = some (tyX1 k) := by decide +kernel
abbrev cX1_init : ByteArray := prog_3_method_1_code
def yX1_init : MethodName := ⟨RX1, "<init>", "()V"⟩
abbrev cX1_add : ByteArray := prog_3_method_2_code
def yX1_add : MethodName := ⟨RX1, "add", "(LNightPorter$Bytes;IIII)I"⟩
abbrev cX1_find : ByteArray := prog_3_method_3_code
def yX1_find : MethodName := ⟨RX1, "find", "(LNightPorter$Bytes;II)I"⟩
abbrev cX1_hasLetters : ByteArray := prog_3_method_4_code
def yX1_hasLetters : MethodName := ⟨RX1, "hasLetters", "(ILNightPorter$Bytes;I)Z"⟩
abbrev cX1_letterOf : ByteArray := prog_3_method_5_code
def yX1_letterOf : MethodName := ⟨RX1, "letterOf", "(II)I"⟩
abbrev cX1_isAway : ByteArray := prog_3_method_6_code
def yX1_isAway : MethodName := ⟨RX1, "isAway", "(I)Z"⟩
abbrev cX1_countAway : ByteArray := prog_3_method_7_code
def yX1_countAway : MethodName := ⟨RX1, "countAway", "()I"⟩
abbrev cX1_soakBy : ByteArray := prog_3_method_8_code
def yX1_soakBy : MethodName := ⟨RX1, "soakBy", "(II)V"⟩
abbrev cX1_walkAt : ByteArray := prog_3_method_9_code
def yX1_walkAt : MethodName := ⟨RX1, "walkAt", "(II)I"⟩
abbrev cX1_barksAt : ByteArray := prog_3_method_10_code
def yX1_barksAt : MethodName := ⟨RX1, "barksAt", "(II)Z"⟩
abbrev cX1_noiseAt : ByteArray := prog_3_method_11_code
def yX1_noiseAt : MethodName := ⟨RX1, "noiseAt", "(I)I"⟩
abbrev cX1_copyFrom : ByteArray := prog_3_method_12_code
def yX1_copyFrom : MethodName := ⟨RX1, "copyFrom", "(LNightPorter$Guests;)V"⟩
def RX2 : String := "NightPorter$History"
def TX2 : u_T := fun k => match k with
  | 0 => ("NightPorter$History", "nights", "[LNightPorter$Night;", true)
  | 1 => ("NightPorter$History", "next", "I", false)
  | _ => ("NightPorter$History", "count", "I", false)
def tyX2 : Nat → FieldType := fun k => match k with
  | 0 => .array (.object "NightPorter$Night")
  | 1 => .int
  | _ => .int
abbrev wsX20 : List Cond := u_ws RX2 TX2 3
theorem nmX2 : ∀ a, a < 3 → ∀ b, b < 3 → a ≠ b → (TX2 a).2.1 ≠ (TX2 b).2.1 := by decide +kernel
theorem tyX2_ok : ∀ k, k < 3 → parseFieldDescriptor (TX2 k).2.2.1 = some (tyX2 k) := by decide +kernel
abbrev cX2_init : ByteArray := prog_4_method_1_code
def yX2_init : MethodName := ⟨RX2, "<init>", "()V"⟩
abbrev cX2_remember : ByteArray := prog_4_method_2_code
def yX2_remember : MethodName := ⟨RX2, "remember", "(LNightPorter$Night;)V"⟩
abbrev cX2_takeBack : ByteArray := prog_4_method_3_code
def yX2_takeBack : MethodName := ⟨RX2, "takeBack", "(LNightPorter$Night;)V"⟩
def RX3 : String := "NightPorter$Night"
def TX3 : u_T := fun k => match k with
  | 0 => ("NightPorter$Night", "minute", "I", false)
  | 1 => ("NightPorter$Night", "rain", "I", false)
  | 2 => ("NightPorter$Night", "noiseLimit", "I", false)
  | 3 => ("NightPorter$Night", "noise", "I", false)
  | 4 => ("NightPorter$Night", "complaints", "I", false)
  | 5 => ("NightPorter$Night", "puddle", "I", false)
  | 6 => ("NightPorter$Night", "tips", "I", false)
  | 7 => ("NightPorter$Night", "guests", "LNightPorter$Guests;", true)
  | 8 => ("NightPorter$Night", "umbrellas", "LNightPorter$Umbrellas;", true)
  | _ => ("NightPorter$Night", "register", "LNightPorter$Register;", true)
def tyX3 : Nat → FieldType := fun k => match k with
  | 0 => .int
  | 1 => .int
  | 2 => .int
  | 3 => .int
  | 4 => .int
  | 5 => .int
  | 6 => .int
  | 7 => .object "NightPorter$Guests"
  | 8 => .object "NightPorter$Umbrellas"
  | _ => .object "NightPorter$Register"
abbrev wsX30 : List Cond := u_ws RX3 TX3 10
theorem nmX3 : ∀ a, a < 10 → ∀ b, b < 10 → a ≠ b → (TX3 a).2.1 ≠ (TX3 b).2.1 := by decide +kernel
theorem tyX3_ok : ∀ k, k < 10 → parseFieldDescriptor (TX3 k).2.2.1 = some (tyX3 k) := by decide +kernel
abbrev cX3_init : ByteArray := prog_5_method_1_code
def yX3_init : MethodName := ⟨RX3, "<init>", "()V"⟩
abbrev cX3_clear : ByteArray := prog_5_method_2_code
def yX3_clear : MethodName := ⟨RX3, "clear", "()V"⟩
abbrev cX3_copyFrom : ByteArray := prog_5_method_3_code
def yX3_copyFrom : MethodName := ⟨RX3, "copyFrom", "(LNightPorter$Night;)V"⟩
abbrev cX3_presentYawn : ByteArray := prog_5_method_4_code
def yX3_presentYawn : MethodName := ⟨RX3, "presentYawn", "()I"⟩
abbrev cX3_tipToGive : ByteArray := prog_5_method_5_code
def yX3_tipToGive : MethodName := ⟨RX3, "tipToGive", "(I)I"⟩
abbrev cX3_umbrellaToTake : ByteArray := prog_5_method_6_code
def yX3_umbrellaToTake : MethodName := ⟨RX3, "umbrellaToTake", "(I)I"⟩
abbrev cX3_letLeave : ByteArray := prog_5_method_7_code
def yX3_letLeave : MethodName := ⟨RX3, "letLeave", "(I)V"⟩
abbrev cX3_letReturn : ByteArray := prog_5_method_8_code
def yX3_letReturn : MethodName := ⟨RX3, "letReturn", "(I)I"⟩
abbrev cX3_passOne : ByteArray := prog_5_method_9_code
def yX3_passOne : MethodName := ⟨RX3, "passOne", "()V"⟩
abbrev cX3_soakGuests : ByteArray := prog_5_method_10_code
def yX3_soakGuests : MethodName := ⟨RX3, "soakGuests", "()V"⟩
abbrev cX3_foreseeComplaints : ByteArray := prog_5_method_11_code
def yX3_foreseeComplaints : MethodName := ⟨RX3, "foreseeComplaints", "(I)I"⟩
abbrev cX3_sumOfMinutesAway : ByteArray := prog_5_method_12_code
def yX3_sumOfMinutesAway : MethodName := ⟨RX3, "sumOfMinutesAway", "(II)I"⟩
abbrev cX3_countSuspects : ByteArray := prog_5_method_13_code
def yX3_countSuspects : MethodName := ⟨RX3, "countSuspects", "(II)I"⟩
abbrev cX3_firstSuspect : ByteArray := prog_5_method_14_code
def yX3_firstSuspect : MethodName := ⟨RX3, "firstSuspect", "(II)I"⟩
def RX4 : String := "NightPorter$Parser"
def TX4 : u_T := fun k => match k with
  | 0 => ("NightPorter$Parser", "text", "LNightPorter$Bytes;", true)
  | 1 => ("NightPorter$Parser", "kind", "I", false)
  | 2 => ("NightPorter$Parser", "start", "I", false)
  | 3 => ("NightPorter$Parser", "end", "I", false)
  | _ => ("NightPorter$Parser", "value", "I", false)
def tyX4 : Nat → FieldType := fun k => match k with
  | 0 => .object "NightPorter$Bytes"
  | 1 => .int
  | 2 => .int
  | 3 => .int
  | _ => .int
abbrev wsX40 : List Cond := u_ws RX4 TX4 5
theorem nmX4 : ∀ a, a < 5 → ∀ b, b < 5 → a ≠ b → (TX4 a).2.1 ≠ (TX4 b).2.1 := by decide +kernel
theorem tyX4_ok : ∀ k, k < 5 → parseFieldDescriptor (TX4 k).2.2.1 = some (tyX4 k) := by decide +kernel
abbrev cX4_init : ByteArray := prog_6_method_1_code
def yX4_init : MethodName := ⟨RX4, "<init>", "(LNightPorter$Bytes;)V"⟩
abbrev cX4_readText : ByteArray := prog_6_method_2_code
def yX4_readText : MethodName := ⟨RX4, "readText", "(LNightPorter$Night;)I"⟩
abbrev cX4_readHead : ByteArray := prog_6_method_3_code
def yX4_readHead : MethodName := ⟨RX4, "readHead", "(LNightPorter$Night;)Z"⟩
abbrev cX4_readGuest : ByteArray := prog_6_method_4_code
def yX4_readGuest : MethodName := ⟨RX4, "readGuest", "(LNightPorter$Guests;)Z"⟩
abbrev cX4_readUmbrella : ByteArray := prog_6_method_5_code
def yX4_readUmbrella : MethodName := ⟨RX4, "readUmbrella", "(LNightPorter$Night;)Z"⟩
abbrev cX4_passSemicolon : ByteArray := prog_6_method_6_code
def yX4_passSemicolon : MethodName := ⟨RX4, "passSemicolon", "()Z"⟩
abbrev cX4_isNumber : ByteArray := prog_6_method_7_code
def yX4_isNumber : MethodName := ⟨RX4, "isNumber", "(II)Z"⟩
abbrev cX4_isWord : ByteArray := prog_6_method_8_code
def yX4_isWord : MethodName := ⟨RX4, "isWord", "(Ljava/lang/String;)Z"⟩
abbrev cX4_advance : ByteArray := prog_6_method_9_code
def yX4_advance : MethodName := ⟨RX4, "advance", "()V"⟩
abbrev cX4_takeWord : ByteArray := prog_6_method_10_code
def yX4_takeWord : MethodName := ⟨RX4, "takeWord", "()V"⟩
abbrev cX4_takeNumber : ByteArray := prog_6_method_11_code
def yX4_takeNumber : MethodName := ⟨RX4, "takeNumber", "()V"⟩
def RX5 : String := "NightPorter$Register"
def TX5 : u_T := fun k => match k with
  | 0 => ("NightPorter$Register", "count", "I", false)
  | 1 => ("NightPorter$Register", "minutes", "[I", true)
  | 2 => ("NightPorter$Register", "guests", "[I", true)
  | _ => ("NightPorter$Register", "signs", "[I", true)
def tyX5 : Nat → FieldType := fun k => match k with
  | 0 => .int
  | 1 => .array .int
  | 2 => .array .int
  | _ => .array .int
abbrev wsX50 : List Cond := u_ws RX5 TX5 4
theorem nmX5 : ∀ a, a < 4 → ∀ b, b < 4 → a ≠ b → (TX5 a).2.1 ≠ (TX5 b).2.1 := by decide +kernel
theorem tyX5_ok : ∀ k, k < 4 → parseFieldDescriptor (TX5 k).2.2.1 = some (tyX5 k) := by decide +kernel
abbrev cX5_init : ByteArray := prog_7_method_1_code
def yX5_init : MethodName := ⟨RX5, "<init>", "()V"⟩
abbrev cX5_enter : ByteArray := prog_7_method_2_code
def yX5_enter : MethodName := ⟨RX5, "enter", "(III)V"⟩
abbrev cX5_latestMinute : ByteArray := prog_7_method_3_code
def yX5_latestMinute : MethodName := ⟨RX5, "latestMinute", "()I"⟩
abbrev cX5_wasInAllThrough : ByteArray := prog_7_method_4_code
def yX5_wasInAllThrough : MethodName := ⟨RX5, "wasInAllThrough", "(III)Z"⟩
abbrev cX5_minutesAway : ByteArray := prog_7_method_5_code
def yX5_minutesAway : MethodName := ⟨RX5, "minutesAway", "(IIII)I"⟩
abbrev cX5_writeTo : ByteArray := prog_7_method_6_code
def yX5_writeTo : MethodName := ⟨RX5, "writeTo", "(LNightPorter$Bytes;I)V"⟩
abbrev cX5_copyFrom : ByteArray := prog_7_method_7_code
def yX5_copyFrom : MethodName := ⟨RX5, "copyFrom", "(LNightPorter$Register;)V"⟩
def RX6 : String := "NightPorter$Snapshots"
def TX6 : u_T := fun k => match k with
  | 0 => ("NightPorter$Snapshots", "nights", "[LNightPorter$Night;", true)
  | _ => ("NightPorter$Snapshots", "filled", "[Z", true)
def tyX6 : Nat → FieldType := fun k => match k with
  | 0 => .array (.object "NightPorter$Night")
  | _ => .array .boolean
abbrev wsX60 : List Cond := u_ws RX6 TX6 2
theorem nmX6 : ∀ a, a < 2 → ∀ b, b < 2 → a ≠ b → (TX6 a).2.1 ≠ (TX6 b).2.1 := by decide +kernel
theorem tyX6_ok : ∀ k, k < 2 → parseFieldDescriptor (TX6 k).2.2.1 = some (tyX6 k) := by decide +kernel
abbrev cX6_init : ByteArray := prog_8_method_1_code
def yX6_init : MethodName := ⟨RX6, "<init>", "()V"⟩
abbrev cX6_put : ByteArray := prog_8_method_2_code
def yX6_put : MethodName := ⟨RX6, "put", "(ILNightPorter$Night;)V"⟩
abbrev cX6_empty : ByteArray := prog_8_method_3_code
def yX6_empty : MethodName := ⟨RX6, "empty", "()V"⟩
def RX7 : String := "NightPorter$Umbrellas"
def TX7 : u_T := fun k => match k with
  | 0 => ("NightPorter$Umbrellas", "count", "I", false)
  | 1 => ("NightPorter$Umbrellas", "owners", "[I", true)
  | 2 => ("NightPorter$Umbrellas", "wetnesses", "[I", true)
  | _ => ("NightPorter$Umbrellas", "carriers", "[I", true)
def tyX7 : Nat → FieldType := fun k => match k with
  | 0 => .int
  | 1 => .array .int
  | 2 => .array .int
  | _ => .array .int
abbrev wsX70 : List Cond := u_ws RX7 TX7 4
theorem nmX7 : ∀ a, a < 4 → ∀ b, b < 4 → a ≠ b → (TX7 a).2.1 ≠ (TX7 b).2.1 := by decide +kernel
theorem tyX7_ok : ∀ k, k < 4 → parseFieldDescriptor (TX7 k).2.2.1 = some (tyX7 k) := by decide +kernel
abbrev cX7_init : ByteArray := prog_9_method_1_code
def yX7_init : MethodName := ⟨RX7, "<init>", "()V"⟩
abbrev cX7_add : ByteArray := prog_9_method_2_code
def yX7_add : MethodName := ⟨RX7, "add", "(II)I"⟩
abbrev cX7_stands : ByteArray := prog_9_method_3_code
def yX7_stands : MethodName := ⟨RX7, "stands", "(I)Z"⟩
abbrev cX7_canBeTaken : ByteArray := prog_9_method_4_code
def yX7_canBeTaken : MethodName := ⟨RX7, "canBeTaken", "(I)Z"⟩
abbrev cX7_carriedBy : ByteArray := prog_9_method_5_code
def yX7_carriedBy : MethodName := ⟨RX7, "carriedBy", "(I)I"⟩
abbrev cX7_countInStand : ByteArray := prog_9_method_6_code
def yX7_countInStand : MethodName := ⟨RX7, "countInStand", "()I"⟩
abbrev cX7_countBorrowed : ByteArray := prog_9_method_7_code
def yX7_countBorrowed : MethodName := ⟨RX7, "countBorrowed", "()I"⟩
abbrev cX7_firstOwnUsable : ByteArray := prog_9_method_8_code
def yX7_firstOwnUsable : MethodName := ⟨RX7, "firstOwnUsable", "(I)I"⟩
abbrev cX7_driestUsable : ByteArray := prog_9_method_9_code
def yX7_driestUsable : MethodName := ⟨RX7, "driestUsable", "()I"⟩
abbrev cX7_passOneIn : ByteArray := prog_9_method_10_code
def yX7_passOneIn : MethodName := ⟨RX7, "passOneIn", "(I)I"⟩
abbrev cX7_copyFrom : ByteArray := prog_9_method_11_code
def yX7_copyFrom : MethodName := ⟨RX7, "copyFrom", "(LNightPorter$Umbrellas;)V"⟩
def RX8 : String := "NightPorter"
def TX8 : u_T := fun k => match k with
  | 0 => ("NightPorter", "input", "LNightPorter$Bytes;", true)
  | 1 => ("NightPorter", "written", "LNightPorter$Bytes;", true)
  | 2 => ("NightPorter", "parser", "LNightPorter$Parser;", true)
  | 3 => ("NightPorter", "night", "LNightPorter$Night;", true)
  | 4 => ("NightPorter", "draft", "LNightPorter$Night;", true)
  | 5 => ("NightPorter", "history", "LNightPorter$History;", true)
  | 6 => ("NightPorter", "snapshots", "LNightPorter$Snapshots;", true)
  | _ => ("NightPorter", "foundError", "I", false)
def tyX8 : Nat → FieldType := fun k => match k with
  | 0 => .object "NightPorter$Bytes"
  | 1 => .object "NightPorter$Bytes"
  | 2 => .object "NightPorter$Parser"
  | 3 => .object "NightPorter$Night"
  | 4 => .object "NightPorter$Night"
  | 5 => .object "NightPorter$History"
  | 6 => .object "NightPorter$Snapshots"
  | _ => .int
abbrev wsX80 : List Cond := u_ws RX8 TX8 8
theorem nmX8 : ∀ a, a < 8 → ∀ b, b < 8 → a ≠ b → (TX8 a).2.1 ≠ (TX8 b).2.1 := by decide +kernel
theorem tyX8_ok : ∀ k, k < 8 → parseFieldDescriptor (TX8 k).2.2.1 = some (tyX8 k) := by decide +kernel
abbrev cX8_init : ByteArray := prog_1_method_1_code
def yX8_init : MethodName := ⟨RX8, "<init>", "()V"⟩
abbrev cX8_append : ByteArray := prog_1_method_2_code
def yX8_append : MethodName := ⟨RX8, "append", "(IIIII)I"⟩
abbrev cX8_shorten : ByteArray := prog_1_method_3_code
def yX8_shorten : MethodName := ⟨RX8, "shorten", "(I)I"⟩
abbrev cX8_load : ByteArray := prog_1_method_4_code
def yX8_load : MethodName := ⟨RX8, "load", "()I"⟩
abbrev cX8_hasError : ByteArray := prog_1_method_5_code
def yX8_hasError : MethodName := ⟨RX8, "hasError", "()Z"⟩
abbrev cX8_errorOffset : ByteArray := prog_1_method_6_code
def yX8_errorOffset : MethodName := ⟨RX8, "errorOffset", "()I"⟩
abbrev cX8_minute : ByteArray := prog_1_method_7_code
def yX8_minute : MethodName := ⟨RX8, "minute", "()I"⟩
abbrev cX8_rain : ByteArray := prog_1_method_8_code
def yX8_rain : MethodName := ⟨RX8, "rain", "()I"⟩
abbrev cX8_noiseLimit : ByteArray := prog_1_method_9_code
def yX8_noiseLimit : MethodName := ⟨RX8, "noiseLimit", "()I"⟩
abbrev cX8_noise : ByteArray := prog_1_method_10_code
def yX8_noise : MethodName := ⟨RX8, "noise", "()I"⟩
abbrev cX8_complaints : ByteArray := prog_1_method_11_code
def yX8_complaints : MethodName := ⟨RX8, "complaints", "()I"⟩
abbrev cX8_puddle : ByteArray := prog_1_method_12_code
def yX8_puddle : MethodName := ⟨RX8, "puddle", "()I"⟩
abbrev cX8_yawn : ByteArray := prog_1_method_13_code
def yX8_yawn : MethodName := ⟨RX8, "yawn", "()I"⟩
abbrev cX8_tips : ByteArray := prog_1_method_14_code
def yX8_tips : MethodName := ⟨RX8, "tips", "()I"⟩
abbrev cX8_guestCount : ByteArray := prog_1_method_15_code
def yX8_guestCount : MethodName := ⟨RX8, "guestCount", "()I"⟩
abbrev cX8_nameLength : ByteArray := prog_1_method_16_code
def yX8_nameLength : MethodName := ⟨RX8, "nameLength", "(I)I"⟩
abbrev cX8_nameByte : ByteArray := prog_1_method_17_code
def yX8_nameByte : MethodName := ⟨RX8, "nameByte", "(II)I"⟩
abbrev cX8_guestOfInput : ByteArray := prog_1_method_18_code
def yX8_guestOfInput : MethodName := ⟨RX8, "guestOfInput", "()I"⟩
abbrev cX8_generosity : ByteArray := prog_1_method_19_code
def yX8_generosity : MethodName := ⟨RX8, "generosity", "(I)I"⟩
abbrev cX8_bark : ByteArray := prog_1_method_20_code
def yX8_bark : MethodName := ⟨RX8, "bark", "(I)I"⟩
abbrev cX8_isOut : ByteArray := prog_1_method_21_code
def yX8_isOut : MethodName := ⟨RX8, "isOut", "(I)Z"⟩
abbrev cX8_outSince : ByteArray := prog_1_method_22_code
def yX8_outSince : MethodName := ⟨RX8, "outSince", "(I)I"⟩
abbrev cX8_soak : ByteArray := prog_1_method_23_code
def yX8_soak : MethodName := ⟨RX8, "soak", "(I)I"⟩
abbrev cX8_keysAtDesk : ByteArray := prog_1_method_24_code
def yX8_keysAtDesk : MethodName := ⟨RX8, "keysAtDesk", "()I"⟩
abbrev cX8_wouldBark : ByteArray := prog_1_method_25_code
def yX8_wouldBark : MethodName := ⟨RX8, "wouldBark", "(I)Z"⟩
abbrev cX8_umbrellaCount : ByteArray := prog_1_method_26_code
def yX8_umbrellaCount : MethodName := ⟨RX8, "umbrellaCount", "()I"⟩
abbrev cX8_ownerOf : ByteArray := prog_1_method_27_code
def yX8_ownerOf : MethodName := ⟨RX8, "ownerOf", "(I)I"⟩
abbrev cX8_wetness : ByteArray := prog_1_method_28_code
def yX8_wetness : MethodName := ⟨RX8, "wetness", "(I)I"⟩
abbrev cX8_isInStand : ByteArray := prog_1_method_29_code
def yX8_isInStand : MethodName := ⟨RX8, "isInStand", "(I)Z"⟩
abbrev cX8_isUsable : ByteArray := prog_1_method_30_code
def yX8_isUsable : MethodName := ⟨RX8, "isUsable", "(I)Z"⟩
abbrev cX8_carrierOf : ByteArray := prog_1_method_31_code
def yX8_carrierOf : MethodName := ⟨RX8, "carrierOf", "(I)I"⟩
abbrev cX8_umbrellaOf : ByteArray := prog_1_method_32_code
def yX8_umbrellaOf : MethodName := ⟨RX8, "umbrellaOf", "(I)I"⟩
abbrev cX8_standCount : ByteArray := prog_1_method_33_code
def yX8_standCount : MethodName := ⟨RX8, "standCount", "()I"⟩
abbrev cX8_borrowedCount : ByteArray := prog_1_method_34_code
def yX8_borrowedCount : MethodName := ⟨RX8, "borrowedCount", "()I"⟩
abbrev cX8_entryCount : ByteArray := prog_1_method_35_code
def yX8_entryCount : MethodName := ⟨RX8, "entryCount", "()I"⟩
abbrev cX8_entryMinute : ByteArray := prog_1_method_36_code
def yX8_entryMinute : MethodName := ⟨RX8, "entryMinute", "(I)I"⟩
abbrev cX8_entryGuest : ByteArray := prog_1_method_37_code
def yX8_entryGuest : MethodName := ⟨RX8, "entryGuest", "(I)I"⟩
abbrev cX8_isLeaving : ByteArray := prog_1_method_38_code
def yX8_isLeaving : MethodName := ⟨RX8, "isLeaving", "(I)Z"⟩
abbrev cX8_wasOut : ByteArray := prog_1_method_39_code
def yX8_wasOut : MethodName := ⟨RX8, "wasOut", "(II)Z"⟩
abbrev cX8_hasAlibi : ByteArray := prog_1_method_40_code
def yX8_hasAlibi : MethodName := ⟨RX8, "hasAlibi", "(III)Z"⟩
abbrev cX8_suspects : ByteArray := prog_1_method_41_code
def yX8_suspects : MethodName := ⟨RX8, "suspects", "(II)I"⟩
abbrev cX8_culprit : ByteArray := prog_1_method_42_code
def yX8_culprit : MethodName := ⟨RX8, "culprit", "(II)I"⟩
abbrev cX8_minutesOut : ByteArray := prog_1_method_43_code
def yX8_minutesOut : MethodName := ⟨RX8, "minutesOut", "(I)I"⟩
abbrev cX8_minutesTogether : ByteArray := prog_1_method_44_code
def yX8_minutesTogether : MethodName := ⟨RX8, "minutesTogether", "(II)I"⟩
abbrev cX8_meanMinutesOut : ByteArray := prog_1_method_45_code
def yX8_meanMinutesOut : MethodName := ⟨RX8, "meanMinutesOut", "()D"⟩
abbrev cX8_shareOut : ByteArray := prog_1_method_46_code
def yX8_shareOut : MethodName := ⟨RX8, "shareOut", "()F"⟩
abbrev cX8_umbrellaFor : ByteArray := prog_1_method_47_code
def yX8_umbrellaFor : MethodName := ⟨RX8, "umbrellaFor", "(I)I"⟩
abbrev cX8_tipOf : ByteArray := prog_1_method_48_code
def yX8_tipOf : MethodName := ⟨RX8, "tipOf", "(I)I"⟩
abbrev cX8_complaintsAfter : ByteArray := prog_1_method_49_code
def yX8_complaintsAfter : MethodName := ⟨RX8, "complaintsAfter", "(I)I"⟩
abbrev cX8_addGuest : ByteArray := prog_1_method_50_code
def yX8_addGuest : MethodName := ⟨RX8, "addGuest", "(II)I"⟩
abbrev cX8_addUmbrella : ByteArray := prog_1_method_51_code
def yX8_addUmbrella : MethodName := ⟨RX8, "addUmbrella", "(II)I"⟩
abbrev cX8_leave : ByteArray := prog_1_method_52_code
def yX8_leave : MethodName := ⟨RX8, "leave", "(I)I"⟩
abbrev cX8_comeBack : ByteArray := prog_1_method_53_code
def yX8_comeBack : MethodName := ⟨RX8, "comeBack", "(I)I"⟩
abbrev cX8_passMinutes : ByteArray := prog_1_method_54_code
def yX8_passMinutes : MethodName := ⟨RX8, "passMinutes", "(I)I"⟩
abbrev cX8_walkDog : ByteArray := prog_1_method_55_code
def yX8_walkDog : MethodName := ⟨RX8, "walkDog", "(I)I"⟩
abbrev cX8_setRain : ByteArray := prog_1_method_56_code
def yX8_setRain : MethodName := ⟨RX8, "setRain", "(I)I"⟩
abbrev cX8_setNoiseLimit : ByteArray := prog_1_method_57_code
def yX8_setNoiseLimit : MethodName := ⟨RX8, "setNoiseLimit", "(I)I"⟩
abbrev cX8_undo : ByteArray := prog_1_method_58_code
def yX8_undo : MethodName := ⟨RX8, "undo", "()I"⟩
abbrev cX8_saveSnapshot : ByteArray := prog_1_method_59_code
def yX8_saveSnapshot : MethodName := ⟨RX8, "saveSnapshot", "(I)I"⟩
abbrev cX8_restoreSnapshot : ByteArray := prog_1_method_60_code
def yX8_restoreSnapshot : MethodName := ⟨RX8, "restoreSnapshot", "(I)I"⟩
abbrev cX8_writeEntries : ByteArray := prog_1_method_61_code
def yX8_writeEntries : MethodName := ⟨RX8, "writeEntries", "(I)I"⟩
abbrev cX8_writtenByte : ByteArray := prog_1_method_62_code
def yX8_writtenByte : MethodName := ⟨RX8, "writtenByte", "(I)I"⟩
abbrev cX8_readInput : ByteArray := prog_1_method_63_code
def yX8_readInput : MethodName := ⟨RX8, "readInput", "()V"⟩
abbrev cX8_requireGuest : ByteArray := prog_1_method_64_code
def yX8_requireGuest : MethodName := ⟨RX8, "requireGuest", "(I)V"⟩
abbrev cX8_requireUmbrella : ByteArray := prog_1_method_65_code
def yX8_requireUmbrella : MethodName := ⟨RX8, "requireUmbrella", "(I)V"⟩
abbrev cX8_requireEntry : ByteArray := prog_1_method_66_code
def yX8_requireEntry : MethodName := ⟨RX8, "requireEntry", "(I)V"⟩
abbrev cX8_requireSlot : ByteArray := prog_1_method_67_code
def yX8_requireSlot : MethodName := ⟨RX8, "requireSlot", "(I)V"⟩
abbrev cX8_requirePassed : ByteArray := prog_1_method_68_code
def yX8_requirePassed : MethodName := ⟨RX8, "requirePassed", "(II)V"⟩
abbrev cX8_requireRange : ByteArray := prog_1_method_69_code
def yX8_requireRange : MethodName := ⟨RX8, "requireRange", "(III)V"⟩
abbrev cX8_requireRoomForEntry : ByteArray := prog_1_method_70_code
def yX8_requireRoomForEntry : MethodName := ⟨RX8, "requireRoomForEntry", "()V"⟩
abbrev cX8_isLetter : ByteArray := prog_1_method_71_code
def yX8_isLetter : MethodName := ⟨RX8, "isLetter", "(I)Z"⟩
abbrev cX8_isDigit : ByteArray := prog_1_method_72_code
def yX8_isDigit : MethodName := ⟨RX8, "isDigit", "(I)Z"⟩
abbrev cX8_isBlank : ByteArray := prog_1_method_73_code
def yX8_isBlank : MethodName := ⟨RX8, "isBlank", "(I)Z"⟩
def RJx145de : String := "java/io/Serializable"
def TJx145de : u_T := fun k => match k with
  | _ => ("", "", "", false)
def tyJx145de : Nat → FieldType := fun k => match k with
  | _ => .int
abbrev wsJx145de0 : List Cond := u_ws RJx145de TJx145de 0
theorem nmJx145de : ∀ a, a < 0 → ∀ b, b < 0 → a ≠ b → (TJx145de a).2.1 ≠ (TJx145de b).2.1 := by decide +kernel
theorem tyJx145de_ok : ∀ k, k < 0 → parseFieldDescriptor (TJx145de k).2.2.1 = some (tyJx145de k) := by decide +kernel
def RJ5 : String := "java/lang/AbstractStringBuilder"
def TJ5 : u_T := fun k => match k with
  | _ => ("", "", "", false)
def tyJ5 : Nat → FieldType := fun k => match k with
  | _ => .int
abbrev wsJ50 : List Cond := u_ws RJ5 TJ5 0
theorem nmJ5 : ∀ a, a < 0 → ∀ b, b < 0 → a ≠ b → (TJ5 a).2.1 ≠ (TJ5 b).2.1 := by decide +kernel
theorem tyJ5_ok : ∀ k, k < 0 → parseFieldDescriptor (TJ5 k).2.2.1 = some (tyJ5 k) := by decide +kernel
abbrev cJ5_init_d00df : ByteArray := prog_13_method_2_code
def yJ5_init_d00df : MethodName := ⟨RJ5, "<init>", "(I)V"⟩
abbrev cJ5_init_a7421 : ByteArray := prog_13_method_3_code
def yJ5_init_a7421 : MethodName := ⟨RJ5, "<init>", "(Ljava/lang/String;)V"⟩
abbrev cJ5_length_8abf5 : ByteArray := prog_13_method_6_code
def yJ5_length_8abf5 : MethodName := ⟨RJ5, "length", "()I"⟩
abbrev cJ5_ensureCapacityInternal_d00df : ByteArray := prog_13_method_9_code
def yJ5_ensureCapacityInternal_d00df : MethodName := ⟨RJ5, "ensureCapacityInternal", "(I)V"⟩
abbrev cJ5_newCapacity_0f7a4 : ByteArray := prog_13_method_10_code
def yJ5_newCapacity_0f7a4 : MethodName := ⟨RJ5, "newCapacity", "(I)I"⟩
abbrev cJ5_inflate_da8c8 : ByteArray := prog_13_method_11_code
def yJ5_inflate_da8c8 : MethodName := ⟨RJ5, "inflate", "()V"⟩
abbrev cJ5_append_cf1ce : ByteArray := prog_13_method_22_code
def yJ5_append_cf1ce : MethodName := ⟨RJ5, "append", "(Ljava/lang/String;)Ljava/lang/AbstractStringBuilder;"⟩
abbrev cJ5_appendNull_278bc : ByteArray := prog_13_method_26_code
def yJ5_appendNull_278bc : MethodName := ⟨RJ5, "appendNull", "()Ljava/lang/AbstractStringBuilder;"⟩
abbrev cJ5_append_3fe6f : ByteArray := prog_13_method_31_code
def yJ5_append_3fe6f : MethodName := ⟨RJ5, "append", "(C)Ljava/lang/AbstractStringBuilder;"⟩
abbrev cJ5_append_c97b9 : ByteArray := prog_13_method_32_code
def yJ5_append_c97b9 : MethodName := ⟨RJ5, "append", "(I)Ljava/lang/AbstractStringBuilder;"⟩
abbrev cJ5_getValue_6d5f1 : ByteArray := prog_13_method_64_code
def yJ5_getValue_6d5f1 : MethodName := ⟨RJ5, "getValue", "()[B"⟩
abbrev cJ5_isLatin1_aae02 : ByteArray := prog_13_method_68_code
def yJ5_isLatin1_aae02 : MethodName := ⟨RJ5, "isLatin1", "()Z"⟩
abbrev cJ5_inflateIfNeededFor_a7421 : ByteArray := prog_13_method_71_code
def yJ5_inflateIfNeededFor_a7421 : MethodName := ⟨RJ5, "inflateIfNeededFor", "(Ljava/lang/String;)V"⟩
abbrev cJ5_putStringAt_47b60 : ByteArray := prog_13_method_73_code
def yJ5_putStringAt_47b60 : MethodName := ⟨RJ5, "putStringAt", "(ILjava/lang/String;)V"⟩
def RJx2cfe8 : String := "java/lang/Appendable"
def TJx2cfe8 : u_T := fun k => match k with
  | _ => ("", "", "", false)
def tyJx2cfe8 : Nat → FieldType := fun k => match k with
  | _ => .int
abbrev wsJx2cfe80 : List Cond := u_ws RJx2cfe8 TJx2cfe8 0
theorem nmJx2cfe8 : ∀ a, a < 0 → ∀ b, b < 0 → a ≠ b → (TJx2cfe8 a).2.1 ≠ (TJx2cfe8 b).2.1 := by decide +kernel
theorem tyJx2cfe8_ok : ∀ k, k < 0 → parseFieldDescriptor (TJx2cfe8 k).2.2.1 = some (tyJx2cfe8 k) := by decide +kernel
def RJx9f9b0 : String := "java/lang/CharSequence"
def TJx9f9b0 : u_T := fun k => match k with
  | _ => ("", "", "", false)
def tyJx9f9b0 : Nat → FieldType := fun k => match k with
  | _ => .int
abbrev wsJx9f9b00 : List Cond := u_ws RJx9f9b0 TJx9f9b0 0
theorem nmJx9f9b0 : ∀ a, a < 0 → ∀ b, b < 0 → a ≠ b → (TJx9f9b0 a).2.1 ≠ (TJx9f9b0 b).2.1 := by decide +kernel
theorem tyJx9f9b0_ok : ∀ k, k < 0 → parseFieldDescriptor (TJx9f9b0 k).2.2.1 = some (tyJx9f9b0 k) := by decide +kernel
def RJx8e188 : String := "java/lang/Cloneable"
def TJx8e188 : u_T := fun k => match k with
  | _ => ("", "", "", false)
def tyJx8e188 : Nat → FieldType := fun k => match k with
  | _ => .int
abbrev wsJx8e1880 : List Cond := u_ws RJx8e188 TJx8e188 0
theorem nmJx8e188 : ∀ a, a < 0 → ∀ b, b < 0 → a ≠ b → (TJx8e188 a).2.1 ≠ (TJx8e188 b).2.1 := by decide +kernel
theorem tyJx8e188_ok : ∀ k, k < 0 → parseFieldDescriptor (TJx8e188 k).2.2.1 = some (tyJx8e188 k) := by decide +kernel
def RJxb160c : String := "java/lang/Comparable"
def TJxb160c : u_T := fun k => match k with
  | _ => ("", "", "", false)
def tyJxb160c : Nat → FieldType := fun k => match k with
  | _ => .int
abbrev wsJxb160c0 : List Cond := u_ws RJxb160c TJxb160c 0
theorem nmJxb160c : ∀ a, a < 0 → ∀ b, b < 0 → a ≠ b → (TJxb160c a).2.1 ≠ (TJxb160c b).2.1 := by decide +kernel
theorem tyJxb160c_ok : ∀ k, k < 0 → parseFieldDescriptor (TJxb160c k).2.2.1 = some (tyJxb160c k) := by decide +kernel
def RJ6 : String := "java/lang/Integer"
def TJ6 : u_T := fun k => match k with
  | _ => ("", "", "", false)
def tyJ6 : Nat → FieldType := fun k => match k with
  | _ => .int
abbrev wsJ60 : List Cond := u_ws RJ6 TJ6 0
theorem nmJ6 : ∀ a, a < 0 → ∀ b, b < 0 → a ≠ b → (TJ6 a).2.1 ≠ (TJ6 b).2.1 := by decide +kernel
theorem tyJ6_ok : ∀ k, k < 0 → parseFieldDescriptor (TJ6 k).2.2.1 = some (tyJ6 k) := by decide +kernel
abbrev cJ6_getChars_ba4f3 : ByteArray := prog_22_method_12_code
def yJ6_getChars_ba4f3 : MethodName := ⟨RJ6, "getChars", "(II[B)I"⟩
abbrev cJ6_stringSize_0f7a4 : ByteArray := prog_22_method_13_code
def yJ6_stringSize_0f7a4 : MethodName := ⟨RJ6, "stringSize", "(I)I"⟩
def RJ9 : String := "java/lang/Math"
def TJ9 : u_T := fun k => match k with
  | _ => ("", "", "", false)
def tyJ9 : Nat → FieldType := fun k => match k with
  | _ => .int
abbrev wsJ90 : List Cond := u_ws RJ9 TJ9 0
theorem nmJ9 : ∀ a, a < 0 → ∀ b, b < 0 → a ≠ b → (TJ9 a).2.1 ≠ (TJ9 b).2.1 := by decide +kernel
theorem tyJ9_ok : ∀ k, k < 0 → parseFieldDescriptor (TJ9 k).2.2.1 = some (tyJ9 k) := by decide +kernel
abbrev cJ9_max_7cf53 : ByteArray := prog_23_method_65_code
def yJ9_max_7cf53 : MethodName := ⟨RJ9, "max", "(II)I"⟩
abbrev cJ9_min_7cf53 : ByteArray := prog_23_method_69_code
def yJ9_min_7cf53 : MethodName := ⟨RJ9, "min", "(II)I"⟩
def RJxd2413 : String := "java/lang/Number"
def TJxd2413 : u_T := fun k => match k with
  | _ => ("", "", "", false)
def tyJxd2413 : Nat → FieldType := fun k => match k with
  | _ => .int
abbrev wsJxd24130 : List Cond := u_ws RJxd2413 TJxd2413 0
theorem nmJxd2413 : ∀ a, a < 0 → ∀ b, b < 0 → a ≠ b → (TJxd2413 a).2.1 ≠ (TJxd2413 b).2.1 := by decide +kernel
theorem tyJxd2413_ok : ∀ k, k < 0 → parseFieldDescriptor (TJxd2413 k).2.2.1 = some (tyJxd2413 k) := by decide +kernel
def RJ0 : String := "java/lang/String"
def TJ0 : u_T := fun k => match k with
  | 0 => ("java/lang/String", "value", "[B", true)
  | 1 => ("java/lang/String", "coder", "B", true)
  | 2 => ("java/lang/String", "hash", "I", false)
  | _ => ("java/lang/String", "hashIsZero", "Z", false)
def tyJ0 : Nat → FieldType := fun k => match k with
  | 0 => .array .byte
  | 1 => .byte
  | 2 => .int
  | _ => .boolean
abbrev wsJ00 : List Cond := u_ws RJ0 TJ0 4
theorem nmJ0 : ∀ a, a < 4 → ∀ b, b < 4 → a ≠ b → (TJ0 a).2.1 ≠ (TJ0 b).2.1 := by decide +kernel
theorem tyJ0_ok : ∀ k, k < 4 → parseFieldDescriptor (TJ0 k).2.2.1 = some (tyJ0 k) := by decide +kernel
abbrev cJ0_init_81219 : ByteArray := prog_26_method_53_code
def yJ0_init_81219 : MethodName := ⟨RJ0, "<init>", "(Ljava/lang/StringBuilder;)V"⟩
abbrev cJ0_length_8abf5 : ByteArray := prog_26_method_54_code
def yJ0_length_8abf5 : MethodName := ⟨RJ0, "length", "()I"⟩
abbrev cJ0_charAt_5068e : ByteArray := prog_26_method_56_code
def yJ0_charAt_5068e : MethodName := ⟨RJ0, "charAt", "(I)C"⟩
abbrev cJ0_getBytes_840e7 : ByteArray := prog_26_method_147_code
def yJ0_getBytes_840e7 : MethodName := ⟨RJ0, "getBytes", "([BIB)V"⟩
abbrev cJ0_init_db425 : ByteArray := prog_26_method_150_code
def yJ0_init_db425 : MethodName := ⟨RJ0, "<init>", "(Ljava/lang/AbstractStringBuilder;Ljava/lang/Void;)V"⟩
abbrev cJ0_coder_7d493 : ByteArray := prog_26_method_152_code
def yJ0_coder_7d493 : MethodName := ⟨RJ0, "coder", "()B"⟩
abbrev cJ0_isLatin1_aae02 : ByteArray := prog_26_method_154_code
def yJ0_isLatin1_aae02 : MethodName := ⟨RJ0, "isLatin1", "()Z"⟩
abbrev cJ0_checkIndex_df160 : ByteArray := prog_26_method_155_code
def yJ0_checkIndex_df160 : MethodName := ⟨RJ0, "checkIndex", "(II)V"⟩
abbrev cJ0_checkBoundsOffCount_cabcc : ByteArray := prog_26_method_157_code
def yJ0_checkBoundsOffCount_cabcc : MethodName := ⟨RJ0, "checkBoundsOffCount", "(III)I"⟩
abbrev cJ0_checkBoundsBeginEnd_23922 : ByteArray := prog_26_method_158_code
def yJ0_checkBoundsBeginEnd_23922 : MethodName := ⟨RJ0, "checkBoundsBeginEnd", "(III)V"⟩
def RJ4 : String := "java/lang/StringBuilder"
def TJ4 : u_T := fun k => match k with
  | 0 => ("java/lang/AbstractStringBuilder", "value", "[B", false)
  | 1 => ("java/lang/AbstractStringBuilder", "coder", "B", false)
  | 2 => ("java/lang/AbstractStringBuilder", "maybeLatin1", "Z", false)
  | _ => ("java/lang/AbstractStringBuilder", "count", "I", false)
def tyJ4 : Nat → FieldType := fun k => match k with
  | 0 => .array .byte
  | 1 => .byte
  | 2 => .boolean
  | _ => .int
abbrev wsJ40 : List Cond := u_ws RJ4 TJ4 4
theorem nmJ4 : ∀ a, a < 4 → ∀ b, b < 4 → a ≠ b → (TJ4 a).2.1 ≠ (TJ4 b).2.1 := by decide +kernel
theorem tyJ4_ok : ∀ k, k < 4 → parseFieldDescriptor (TJ4 k).2.2.1 = some (tyJ4 k) := by decide +kernel
abbrev cJ4_init_da8c8 : ByteArray := prog_27_method_1_code
def yJ4_init_da8c8 : MethodName := ⟨RJ4, "<init>", "()V"⟩
abbrev cJ4_init_a7421 : ByteArray := prog_27_method_3_code
def yJ4_init_a7421 : MethodName := ⟨RJ4, "<init>", "(Ljava/lang/String;)V"⟩
abbrev cJ4_append_15ec4 : ByteArray := prog_27_method_7_code
def yJ4_append_15ec4 : MethodName := ⟨RJ4, "append", "(Ljava/lang/String;)Ljava/lang/StringBuilder;"⟩
abbrev cJ4_append_cf468 : ByteArray := prog_27_method_14_code
def yJ4_append_cf468 : MethodName := ⟨RJ4, "append", "(C)Ljava/lang/StringBuilder;"⟩
abbrev cJ4_append_bf812 : ByteArray := prog_27_method_15_code
def yJ4_append_bf812 : MethodName := ⟨RJ4, "append", "(I)Ljava/lang/StringBuilder;"⟩
abbrev cJ4_toString_0e30d : ByteArray := prog_27_method_42_code
def yJ4_toString_0e30d : MethodName := ⟨RJ4, "toString", "()Ljava/lang/String;"⟩
abbrev cJ4_append_cf1ce : ByteArray := prog_27_method_80_code
def yJ4_append_cf1ce : MethodName := ⟨RJ4, "append", "(Ljava/lang/String;)Ljava/lang/AbstractStringBuilder;"⟩
abbrev cJ4_length_8abf5 : ByteArray := prog_27_method_93_code
def yJ4_length_8abf5 : MethodName := ⟨RJ4, "length", "()I"⟩
def RJ1 : String := "java/lang/StringLatin1"
def TJ1 : u_T := fun k => match k with
  | _ => ("", "", "", false)
def tyJ1 : Nat → FieldType := fun k => match k with
  | _ => .int
abbrev wsJ10 : List Cond := u_ws RJ1 TJ1 0
theorem nmJ1 : ∀ a, a < 0 → ∀ b, b < 0 → a ≠ b → (TJ1 a).2.1 ≠ (TJ1 b).2.1 := by decide +kernel
theorem tyJ1_ok : ∀ k, k < 0 → parseFieldDescriptor (TJ1 k).2.2.1 = some (tyJ1 k) := by decide +kernel
abbrev cJ1_charAt_3b067 : ByteArray := prog_28_method_2_code
def yJ1_charAt_3b067 : MethodName := ⟨RJ1, "charAt", "([BI)C"⟩
abbrev cJ1_canEncode_fc78d : ByteArray := prog_28_method_3_code
def yJ1_canEncode_fc78d : MethodName := ⟨RJ1, "canEncode", "(C)Z"⟩
abbrev cJ1_inflate_0e8fd : ByteArray := prog_28_method_50_code
def yJ1_inflate_0e8fd : MethodName := ⟨RJ1, "inflate", "([BI[BII)V"⟩
def RJ2 : String := "java/lang/StringUTF16"
def TJ2 : u_T := fun k => match k with
  | _ => ("", "", "", false)
def tyJ2 : Nat → FieldType := fun k => match k with
  | _ => .int
abbrev wsJ20 : List Cond := u_ws RJ2 TJ2 0
theorem nmJ2 : ∀ a, a < 0 → ∀ b, b < 0 → a ≠ b → (TJ2 a).2.1 ≠ (TJ2 b).2.1 := by decide +kernel
theorem tyJ2_ok : ∀ k, k < 0 → parseFieldDescriptor (TJ2 k).2.2.1 = some (tyJ2 k) := by decide +kernel
abbrev cJ2_newBytesFor_77867 : ByteArray := prog_29_method_2_code
def yJ2_newBytesFor_77867 : MethodName := ⟨RJ2, "newBytesFor", "(I)[B"⟩
abbrev cJ2_newBytesLength_0f7a4 : ByteArray := prog_29_method_3_code
def yJ2_newBytesLength_0f7a4 : MethodName := ⟨RJ2, "newBytesLength", "(I)I"⟩
abbrev cJ2_putChar_b72d1 : ByteArray := prog_29_method_4_code
def yJ2_putChar_b72d1 : MethodName := ⟨RJ2, "putChar", "([BII)V"⟩
abbrev cJ2_getChar_3b067 : ByteArray := prog_29_method_5_code
def yJ2_getChar_3b067 : MethodName := ⟨RJ2, "getChar", "([BI)C"⟩
abbrev cJ2_length_9d52b : ByteArray := prog_29_method_6_code
def yJ2_length_9d52b : MethodName := ⟨RJ2, "length", "([B)I"⟩
abbrev cJ2_coderFromArrayLen_85cad : ByteArray := prog_29_method_15_code
def yJ2_coderFromArrayLen_85cad : MethodName := ⟨RJ2, "coderFromArrayLen", "([BI)B"⟩
abbrev cJ2_compress_39247 : ByteArray := prog_29_method_17_code
def yJ2_compress_39247 : MethodName := ⟨RJ2, "compress", "([BII)[B"⟩
abbrev cJ2_compress_5af95 : ByteArray := prog_29_method_22_code
def yJ2_compress_5af95 : MethodName := ⟨RJ2, "compress", "([BI[BII)I"⟩
abbrev cJ2_putCharSB_b72d1 : ByteArray := prog_29_method_71_code
def yJ2_putCharSB_b72d1 : MethodName := ⟨RJ2, "putCharSB", "([BII)V"⟩
abbrev cJ2_getChars_46870 : ByteArray := prog_29_method_77_code
def yJ2_getChars_46870 : MethodName := ⟨RJ2, "getChars", "(III[B)I"⟩
abbrev cJ2_putCharsAt_cd4e5 : ByteArray := prog_29_method_81_code
def yJ2_putCharsAt_cd4e5 : MethodName := ⟨RJ2, "putCharsAt", "([BICCCC)I"⟩
abbrev cJ2_charAt_3b067 : ByteArray := prog_29_method_83_code
def yJ2_charAt_3b067 : MethodName := ⟨RJ2, "charAt", "([BI)C"⟩
abbrev cJ2_inflate_0e8fd : ByteArray := prog_29_method_86_code
def yJ2_inflate_0e8fd : MethodName := ⟨RJ2, "inflate", "([BI[BII)V"⟩
abbrev cJ2_getChars_ba4f3 : ByteArray := prog_29_method_89_code
def yJ2_getChars_ba4f3 : MethodName := ⟨RJ2, "getChars", "(II[B)I"⟩
abbrev cJ2_checkIndex_2214a : ByteArray := prog_29_method_91_code
def yJ2_checkIndex_2214a : MethodName := ⟨RJ2, "checkIndex", "(I[B)V"⟩
abbrev cJ2_checkBoundsBeginEnd_d044e : ByteArray := prog_29_method_93_code
def yJ2_checkBoundsBeginEnd_d044e : MethodName := ⟨RJ2, "checkBoundsBeginEnd", "(II[B)V"⟩
abbrev cJ2_checkBoundsOffCount_d044e : ByteArray := prog_29_method_94_code
def yJ2_checkBoundsOffCount_d044e : MethodName := ⟨RJ2, "checkBoundsOffCount", "(II[B)V"⟩
def RJ10 : String := "java/lang/System"
def TJ10 : u_T := fun k => match k with
  | _ => ("", "", "", false)
def tyJ10 : Nat → FieldType := fun k => match k with
  | _ => .int
abbrev wsJ100 : List Cond := u_ws RJ10 TJ10 0
theorem nmJ10 : ∀ a, a < 0 → ∀ b, b < 0 → a ≠ b → (TJ10 a).2.1 ≠ (TJ10 b).2.1 := by decide +kernel
theorem tyJ10_ok : ∀ k, k < 0 → parseFieldDescriptor (TJ10 k).2.2.1 = some (tyJ10 k) := by decide +kernel
def RJxfd54e : String := "java/lang/constant/Constable"
def TJxfd54e : u_T := fun k => match k with
  | _ => ("", "", "", false)
def tyJxfd54e : Nat → FieldType := fun k => match k with
  | _ => .int
abbrev wsJxfd54e0 : List Cond := u_ws RJxfd54e TJxfd54e 0
theorem nmJxfd54e : ∀ a, a < 0 → ∀ b, b < 0 → a ≠ b → (TJxfd54e a).2.1 ≠ (TJxfd54e b).2.1 := by decide +kernel
theorem tyJxfd54e_ok : ∀ k, k < 0 → parseFieldDescriptor (TJxfd54e k).2.2.1 = some (tyJxfd54e k) := by decide +kernel
def RJx3cf43 : String := "java/lang/constant/ConstantDesc"
def TJx3cf43 : u_T := fun k => match k with
  | _ => ("", "", "", false)
def tyJx3cf43 : Nat → FieldType := fun k => match k with
  | _ => .int
abbrev wsJx3cf430 : List Cond := u_ws RJx3cf43 TJx3cf43 0
theorem nmJx3cf43 : ∀ a, a < 0 → ∀ b, b < 0 → a ≠ b → (TJx3cf43 a).2.1 ≠ (TJx3cf43 b).2.1 := by decide +kernel
theorem tyJx3cf43_ok : ∀ k, k < 0 → parseFieldDescriptor (TJx3cf43 k).2.2.1 = some (tyJx3cf43 k) := by decide +kernel
def RJ7 : String := "java/util/Arrays"
def TJ7 : u_T := fun k => match k with
  | _ => ("", "", "", false)
def tyJ7 : Nat → FieldType := fun k => match k with
  | _ => .int
abbrev wsJ70 : List Cond := u_ws RJ7 TJ7 0
theorem nmJ7 : ∀ a, a < 0 → ∀ b, b < 0 → a ≠ b → (TJ7 a).2.1 ≠ (TJ7 b).2.1 := by decide +kernel
theorem tyJ7_ok : ∀ k, k < 0 → parseFieldDescriptor (TJ7 k).2.2.1 = some (tyJ7 k) := by decide +kernel
abbrev cJ7_copyOf_9075b : ByteArray := prog_34_method_121_code
def yJ7_copyOf_9075b : MethodName := ⟨RJ7, "copyOf", "([BI)[B"⟩
abbrev cJ7_checkLength_df160 : ByteArray := prog_34_method_131_code
def yJ7_checkLength_df160 : MethodName := ⟨RJ7, "checkLength", "(II)V"⟩
abbrev cJ7_copyOfRange_39247 : ByteArray := prog_34_method_132_code
def yJ7_copyOfRange_39247 : MethodName := ⟨RJ7, "copyOfRange", "([BII)[B"⟩
abbrev cJ7_copyOfRangeByte_39247 : ByteArray := prog_34_method_133_code
def yJ7_copyOfRangeByte_39247 : MethodName := ⟨RJ7, "copyOfRangeByte", "([BII)[B"⟩
def RJ8 : String := "jdk/internal/util/ArraysSupport"
def TJ8 : u_T := fun k => match k with
  | _ => ("", "", "", false)
def tyJ8 : Nat → FieldType := fun k => match k with
  | _ => .int
abbrev wsJ80 : List Cond := u_ws RJ8 TJ8 0
theorem nmJ8 : ∀ a, a < 0 → ∀ b, b < 0 → a ≠ b → (TJ8 a).2.1 ≠ (TJ8 b).2.1 := by decide +kernel
theorem tyJ8_ok : ∀ k, k < 0 → parseFieldDescriptor (TJ8 k).2.2.1 = some (tyJ8 k) := by decide +kernel
abbrev cJ8_newLength_cabcc : ByteArray := prog_36_method_27_code
def yJ8_newLength_cabcc : MethodName := ⟨RJ8, "newLength", "(III)I"⟩
abbrev cJ8_hugeLength_7cf53 : ByteArray := prog_36_method_28_code
def yJ8_hugeLength_7cf53 : MethodName := ⟨RJ8, "hugeLength", "(II)I"⟩
def RJ3 : String := "jdk/internal/util/Preconditions"
def TJ3 : u_T := fun k => match k with
  | _ => ("", "", "", false)
def tyJ3 : Nat → FieldType := fun k => match k with
  | _ => .int
abbrev wsJ30 : List Cond := u_ws RJ3 TJ3 0
theorem nmJ3 : ∀ a, a < 0 → ∀ b, b < 0 → a ≠ b → (TJ3 a).2.1 ≠ (TJ3 b).2.1 := by decide +kernel
theorem tyJ3_ok : ∀ k, k < 0 → parseFieldDescriptor (TJ3 k).2.2.1 = some (tyJ3 k) := by decide +kernel
abbrev cJ3_checkIndex_8e157 : ByteArray := prog_37_method_11_code
def yJ3_checkIndex_8e157 : MethodName := ⟨RJ3, "checkIndex", "(IILjava/util/function/BiFunction;)I"⟩
abbrev cJ3_checkFromToIndex_8c36e : ByteArray := prog_37_method_12_code
def yJ3_checkFromToIndex_8c36e : MethodName := ⟨RJ3, "checkFromToIndex", "(IIILjava/util/function/BiFunction;)I"⟩
abbrev cJ3_checkFromIndexSize_8c36e : ByteArray := prog_37_method_13_code
def yJ3_checkFromIndexSize_8c36e : MethodName := ⟨RJ3, "checkFromIndexSize", "(IIILjava/util/function/BiFunction;)I"⟩
def RL : String := "NightPorterLaw"
abbrev cL_call : ByteArray := method_2_code
def yL_call : MethodName := ⟨RL, "call", "(LNightPorter;IIIIII)I"⟩
abbrev cL_call_ : ByteArray := method_3_code
def yL_call_ : MethodName := ⟨RL, "call", "(LNightPorter;III)I"⟩
abbrev cL_call__ : ByteArray := method_4_code
def yL_call__ : MethodName := ⟨RL, "call", "(LNightPorter;II)I"⟩
abbrev cL_feeds : ByteArray := method_5_code
def yL_feeds : MethodName := ⟨RL, "feeds", "(LNightPorter;Ljava/lang/String;)Z"⟩
abbrev cL_night : ByteArray := method_6_code
def yL_night : MethodName := ⟨RL, "night", "(II)Ljava/lang/String;"⟩
abbrev cL_state : ByteArray := method_7_code
def yL_state : MethodName := ⟨RL, "state", "(LNightPorter;)J"⟩
abbrev cL_register : ByteArray := method_8_code
def yL_register : MethodName := ⟨RL, "register", "(LNightPorter;)Z"⟩
abbrev cL_alibis : ByteArray := method_9_code
def yL_alibis : MethodName := ⟨RL, "alibis", "(LNightPorter;II)Z"⟩
abbrev cL_goes : ByteArray := method_10_code
def yL_goes : MethodName := ⟨RL, "goes", "(LNightPorter;)Z"⟩
abbrev cL_passes : ByteArray := method_11_code
def yL_passes : MethodName := ⟨RL, "passes", "(LNightPorter;I)Z"⟩
abbrev cL_does : ByteArray := method_12_code
def yL_does : MethodName := ⟨RL, "does", "(LNightPorter;II)Z"⟩
abbrev cL_law : ByteArray := code
def yL_law : MethodName := ⟨RL, "law", "([I)Z"⟩
abbrev vwCl : List vw_C := [(RX0, TX0, 2), (RX1, TX1, 9), (RX2, TX2, 3), (RX3, TX3, 10), (RX4, TX4, 5), (RX5, TX5, 4), (RX6, TX6, 2), (RX7, TX7, 4), (RX8, TX8, 8), (RJ0, TJ0, 4), (RJ4, TJ4, 4)]
