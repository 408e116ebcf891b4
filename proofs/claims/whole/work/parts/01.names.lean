def RX0 : String := "UnfinishedFair$Boat"
def TX0 : u_T := fun k => match k with
  | _ => ("UnfinishedFair$Kind", "title", "Ljava/lang/String;", true)
def tyX0 : Nat → FieldType := fun k => match k with
  | _ => .object "java/lang/String"
theorem nmX0 : ∀ a, a < 1 → ∀ b, b < 1 → a ≠ b → (TX0 a).2.1 ≠ (TX0 b).2.1 := by decide +kernel
theorem tyX0_ok : ∀ k, k < 1 → parseFieldDescriptor (TX0 k).2.2.1 = some (tyX0 k) := by decide +kernel
abbrev cX0_init : ByteArray := prog_2_method_1_code
def yX0_init : MethodName := ⟨RX0, "<init>", "(Ljava/lang/String;)V"⟩
abbrev cX0_goesOn : ByteArray := prog_2_method_2_code
def yX0_goesOn : MethodName := ⟨RX0, "goesOn", "(III)I"⟩
abbrev cX0_tires : ByteArray := prog_2_method_3_code
def yX0_tires : MethodName := ⟨RX0, "tires", "()I"⟩
abbrev cX0_bid : ByteArray := prog_2_method_4_code
def yX0_bid : MethodName := ⟨RX0, "bid", "(III)I"⟩
abbrev cX0_asked : ByteArray := prog_2_method_5_code
def yX0_asked : MethodName := ⟨RX0, "asked", "(II)I"⟩
def RX1 : String := "UnfinishedFair$Bridge"
def TX1 : u_T := fun k => match k with
  | _ => ("UnfinishedFair$Kind", "title", "Ljava/lang/String;", true)
def tyX1 : Nat → FieldType := fun k => match k with
  | _ => .object "java/lang/String"
theorem nmX1 : ∀ a, a < 1 → ∀ b, b < 1 → a ≠ b → (TX1 a).2.1 ≠ (TX1 b).2.1 := by decide +kernel
theorem tyX1_ok : ∀ k, k < 1 → parseFieldDescriptor (TX1 k).2.2.1 = some (tyX1 k) := by decide +kernel
abbrev cX1_init : ByteArray := prog_3_method_1_code
def yX1_init : MethodName := ⟨RX1, "<init>", "(Ljava/lang/String;)V"⟩
abbrev cX1_goesOn : ByteArray := prog_3_method_2_code
def yX1_goesOn : MethodName := ⟨RX1, "goesOn", "(III)I"⟩
abbrev cX1_bid : ByteArray := prog_3_method_3_code
def yX1_bid : MethodName := ⟨RX1, "bid", "(III)I"⟩
def RX2 : String := "UnfinishedFair$Common"
def TX2 : u_T := fun k => match k with
  | 0 => ("UnfinishedFair$Common", "natures", "[LUnfinishedFair$Kind;", true)
  | 1 => ("UnfinishedFair$Common", "skills", "[I", true)
  | 2 => ("UnfinishedFair$Common", "zeals", "[I", true)
  | 3 => ("UnfinishedFair$Common", "mades", "[I", true)
  | 4 => ("UnfinishedFair$Common", "kinds", "[I", true)
  | 5 => ("UnfinishedFair$Common", "dones", "[I", true)
  | 6 => ("UnfinishedFair$Common", "withs", "[I", true)
  | 7 => ("UnfinishedFair$Common", "dusts", "[I", true)
  | 8 => ("UnfinishedFair$Common", "held", "[I", true)
  | 9 => ("UnfinishedFair$Common", "year", "I", false)
  | _ => ("UnfinishedFair$Common", "size", "I", false)
def tyX2 : Nat → FieldType := fun k => match k with
  | 0 => .array (.object "UnfinishedFair$Kind")
  | 1 => .array .int
  | 2 => .array .int
  | 3 => .array .int
  | 4 => .array .int
  | 5 => .array .int
  | 6 => .array .int
  | 7 => .array .int
  | 8 => .array .int
  | 9 => .int
  | _ => .int
theorem nmX2 : ∀ a, a < 11 → ∀ b, b < 11 → a ≠ b → (TX2 a).2.1 ≠ (TX2 b).2.1 := by decide +kernel
theorem tyX2_ok : ∀ k, k < 11 → parseFieldDescriptor (TX2 k).2.2.1 = some (tyX2 k) := by decide +kernel
abbrev cX2_init : ByteArray := prog_4_method_1_code
def yX2_init : MethodName := ⟨RX2, "<init>", "([LUnfinishedFair$Kind;)V"⟩
abbrev cX2_become : ByteArray := prog_4_method_2_code
def yX2_become : MethodName := ⟨RX2, "become", "(LUnfinishedFair$Common;)V"⟩
abbrev cX2_isFull : ByteArray := prog_4_method_3_code
def yX2_isFull : MethodName := ⟨RX2, "isFull", "()Z"⟩
abbrev cX2_add : ByteArray := prog_4_method_4_code
def yX2_add : MethodName := ⟨RX2, "add", "(IIII)V"⟩
abbrev cX2_natureOf : ByteArray := prog_4_method_5_code
def yX2_natureOf : MethodName := ⟨RX2, "natureOf", "(I)LUnfinishedFair$Kind;"⟩
abbrev cX2_isFinished : ByteArray := prog_4_method_6_code
def yX2_isFinished : MethodName := ⟨RX2, "isFinished", "(I)Z"⟩
abbrev cX2_canBeLeft : ByteArray := prog_4_method_7_code
def yX2_canBeLeft : MethodName := ⟨RX2, "canBeLeft", "(I)Z"⟩
abbrev cX2_isForTheFair : ByteArray := prog_4_method_8_code
def yX2_isForTheFair : MethodName := ⟨RX2, "isForTheFair", "(I)Z"⟩
abbrev cX2_letGo : ByteArray := prog_4_method_9_code
def yX2_letGo : MethodName := ⟨RX2, "letGo", "(I)V"⟩
abbrev cX2_goYears : ByteArray := prog_4_method_10_code
def yX2_goYears : MethodName := ⟨RX2, "goYears", "(I)V"⟩
abbrev cX2_goYear : ByteArray := prog_4_method_11_code
def yX2_goYear : MethodName := ⟨RX2, "goYear", "()V"⟩
abbrev cX2_workOn : ByteArray := prog_4_method_12_code
def yX2_workOn : MethodName := ⟨RX2, "workOn", "(I)V"⟩
abbrev cX2_countHeld : ByteArray := prog_4_method_13_code
def yX2_countHeld : MethodName := ⟨RX2, "countHeld", "()V"⟩
abbrev cX2_offer : ByteArray := prog_4_method_14_code
def yX2_offer : MethodName := ⟨RX2, "offer", "(I)V"⟩
abbrev cX2_takerOf : ByteArray := prog_4_method_15_code
def yX2_takerOf : MethodName := ⟨RX2, "takerOf", "(I)I"⟩
abbrev cX2_finishedSet : ByteArray := prog_4_method_16_code
def yX2_finishedSet : MethodName := ⟨RX2, "finishedSet", "()I"⟩
abbrev cX2_isAllFinished : ByteArray := prog_4_method_17_code
def yX2_isAllFinished : MethodName := ⟨RX2, "isAllFinished", "()Z"⟩
abbrev cX2_heldSet : ByteArray := prog_4_method_18_code
def yX2_heldSet : MethodName := ⟨RX2, "heldSet", "(I)I"⟩
abbrev cX2_doneOfAll : ByteArray := prog_4_method_19_code
def yX2_doneOfAll : MethodName := ⟨RX2, "doneOfAll", "()I"⟩
abbrev cX2_dustOfAll : ByteArray := prog_4_method_20_code
def yX2_dustOfAll : MethodName := ⟨RX2, "dustOfAll", "()I"⟩
abbrev cX2_madeOfAll : ByteArray := prog_4_method_21_code
def yX2_madeOfAll : MethodName := ⟨RX2, "madeOfAll", "()I"⟩
def RX3 : String := "UnfinishedFair$Jersey"
def TX3 : u_T := fun k => match k with
  | _ => ("UnfinishedFair$Kind", "title", "Ljava/lang/String;", true)
def tyX3 : Nat → FieldType := fun k => match k with
  | _ => .object "java/lang/String"
theorem nmX3 : ∀ a, a < 1 → ∀ b, b < 1 → a ≠ b → (TX3 a).2.1 ≠ (TX3 b).2.1 := by decide +kernel
theorem tyX3_ok : ∀ k, k < 1 → parseFieldDescriptor (TX3 k).2.2.1 = some (tyX3 k) := by decide +kernel
abbrev cX3_init : ByteArray := prog_5_method_1_code
def yX3_init : MethodName := ⟨RX3, "<init>", "(Ljava/lang/String;)V"⟩
abbrev cX3_goesOn : ByteArray := prog_5_method_2_code
def yX3_goesOn : MethodName := ⟨RX3, "goesOn", "(III)I"⟩
abbrev cX3_bid : ByteArray := prog_5_method_3_code
def yX3_bid : MethodName := ⟨RX3, "bid", "(III)I"⟩
def RX4 : String := "UnfinishedFair$Kind"
def TX4 : u_T := fun k => match k with
  | _ => ("UnfinishedFair$Kind", "title", "Ljava/lang/String;", true)
def tyX4 : Nat → FieldType := fun k => match k with
  | _ => .object "java/lang/String"
theorem nmX4 : ∀ a, a < 1 → ∀ b, b < 1 → a ≠ b → (TX4 a).2.1 ≠ (TX4 b).2.1 := by decide +kernel
theorem tyX4_ok : ∀ k, k < 1 → parseFieldDescriptor (TX4 k).2.2.1 = some (tyX4 k) := by decide +kernel
abbrev cX4_init : ByteArray := prog_6_method_1_code
def yX4_init : MethodName := ⟨RX4, "<init>", "(Ljava/lang/String;)V"⟩
abbrev cX4_goesOn : ByteArray := prog_6_method_2_code
def yX4_goesOn : MethodName := ⟨RX4, "goesOn", "(III)I"⟩
abbrev cX4_tires : ByteArray := prog_6_method_3_code
def yX4_tires : MethodName := ⟨RX4, "tires", "()I"⟩
abbrev cX4_bid : ByteArray := prog_6_method_4_code
def yX4_bid : MethodName := ⟨RX4, "bid", "(III)I"⟩
abbrev cX4_asked : ByteArray := prog_6_method_5_code
def yX4_asked : MethodName := ⟨RX4, "asked", "(II)I"⟩
def RX5 : String := "UnfinishedFair$Letter"
def TX5 : u_T := fun k => match k with
  | _ => ("UnfinishedFair$Kind", "title", "Ljava/lang/String;", true)
def tyX5 : Nat → FieldType := fun k => match k with
  | _ => .object "java/lang/String"
theorem nmX5 : ∀ a, a < 1 → ∀ b, b < 1 → a ≠ b → (TX5 a).2.1 ≠ (TX5 b).2.1 := by decide +kernel
theorem tyX5_ok : ∀ k, k < 1 → parseFieldDescriptor (TX5 k).2.2.1 = some (tyX5 k) := by decide +kernel
abbrev cX5_init : ByteArray := prog_7_method_1_code
def yX5_init : MethodName := ⟨RX5, "<init>", "(Ljava/lang/String;)V"⟩
abbrev cX5_goesOn : ByteArray := prog_7_method_2_code
def yX5_goesOn : MethodName := ⟨RX5, "goesOn", "(III)I"⟩
abbrev cX5_tires : ByteArray := prog_7_method_3_code
def yX5_tires : MethodName := ⟨RX5, "tires", "()I"⟩
abbrev cX5_asked : ByteArray := prog_7_method_4_code
def yX5_asked : MethodName := ⟨RX5, "asked", "(II)I"⟩
def RX6 : String := "UnfinishedFair$Quarrel"
def TX6 : u_T := fun k => match k with
  | _ => ("UnfinishedFair$Kind", "title", "Ljava/lang/String;", true)
def tyX6 : Nat → FieldType := fun k => match k with
  | _ => .object "java/lang/String"
theorem nmX6 : ∀ a, a < 1 → ∀ b, b < 1 → a ≠ b → (TX6 a).2.1 ≠ (TX6 b).2.1 := by decide +kernel
theorem tyX6_ok : ∀ k, k < 1 → parseFieldDescriptor (TX6 k).2.2.1 = some (tyX6 k) := by decide +kernel
abbrev cX6_init : ByteArray := prog_8_method_1_code
def yX6_init : MethodName := ⟨RX6, "<init>", "(Ljava/lang/String;)V"⟩
abbrev cX6_goesOn : ByteArray := prog_8_method_2_code
def yX6_goesOn : MethodName := ⟨RX6, "goesOn", "(III)I"⟩
abbrev cX6_tires : ByteArray := prog_8_method_3_code
def yX6_tires : MethodName := ⟨RX6, "tires", "()I"⟩
abbrev cX6_bid : ByteArray := prog_8_method_4_code
def yX6_bid : MethodName := ⟨RX6, "bid", "(III)I"⟩
abbrev cX6_asked : ByteArray := prog_8_method_5_code
def yX6_asked : MethodName := ⟨RX6, "asked", "(II)I"⟩
def RX7 : String := "UnfinishedFair$Sheet"
def TX7 : u_T := fun k => match k with
  | 0 => ("UnfinishedFair$Sheet", "numbers", "[J", true)
  | 1 => ("UnfinishedFair$Sheet", "bits", "I", false)
  | _ => ("UnfinishedFair$Sheet", "length", "I", false)
def tyX7 : Nat → FieldType := fun k => match k with
  | 0 => .array .long
  | 1 => .int
  | _ => .int
theorem nmX7 : ∀ a, a < 3 → ∀ b, b < 3 → a ≠ b → (TX7 a).2.1 ≠ (TX7 b).2.1 := by decide +kernel
theorem tyX7_ok : ∀ k, k < 3 → parseFieldDescriptor (TX7 k).2.2.1 = some (tyX7 k) := by decide +kernel
abbrev cX7_init : ByteArray := prog_9_method_1_code
def yX7_init : MethodName := ⟨RX7, "<init>", "()V"⟩
abbrev cX7_begin : ByteArray := prog_9_method_2_code
def yX7_begin : MethodName := ⟨RX7, "begin", "(II)V"⟩
abbrev cX7_isMissing : ByteArray := prog_9_method_3_code
def yX7_isMissing : MethodName := ⟨RX7, "isMissing", "()Z"⟩
abbrev cX7_put : ByteArray := prog_9_method_4_code
def yX7_put : MethodName := ⟨RX7, "put", "(IJ)V"⟩
abbrev cX7_hasSpan : ByteArray := prog_9_method_5_code
def yX7_hasSpan : MethodName := ⟨RX7, "hasSpan", "(II)Z"⟩
def RX8 : String := "UnfinishedFair$Tape"
def TX8 : u_T := fun k => match k with
  | 0 => ("UnfinishedFair$Tape", "natures", "[LUnfinishedFair$Kind;", true)
  | 1 => ("UnfinishedFair$Tape", "bytes", "[B", true)
  | 2 => ("UnfinishedFair$Tape", "length", "I", false)
  | 3 => ("UnfinishedFair$Tape", "sort", "I", false)
  | 4 => ("UnfinishedFair$Tape", "place", "I", false)
  | _ => ("UnfinishedFair$Tape", "behind", "I", false)
def tyX8 : Nat → FieldType := fun k => match k with
  | 0 => .array (.object "UnfinishedFair$Kind")
  | 1 => .array .byte
  | 2 => .int
  | 3 => .int
  | 4 => .int
  | _ => .int
theorem nmX8 : ∀ a, a < 6 → ∀ b, b < 6 → a ≠ b → (TX8 a).2.1 ≠ (TX8 b).2.1 := by decide +kernel
theorem tyX8_ok : ∀ k, k < 6 → parseFieldDescriptor (TX8 k).2.2.1 = some (tyX8 k) := by decide +kernel
abbrev cX8_init : ByteArray := prog_10_method_1_code
def yX8_init : MethodName := ⟨RX8, "<init>", "([LUnfinishedFair$Kind;)V"⟩
abbrev cX8_hasRoomFor : ByteArray := prog_10_method_2_code
def yX8_hasRoomFor : MethodName := ⟨RX8, "hasRoomFor", "(I)Z"⟩
abbrev cX8_append : ByteArray := prog_10_method_3_code
def yX8_append : MethodName := ⟨RX8, "append", "(II)V"⟩
abbrev cX8_tellTo : ByteArray := prog_10_method_4_code
def yX8_tellTo : MethodName := ⟨RX8, "tellTo", "(LUnfinishedFair$Common;)I"⟩
abbrev cX8_takeItem : ByteArray := prog_10_method_5_code
def yX8_takeItem : MethodName := ⟨RX8, "takeItem", "(LUnfinishedFair$Common;)Z"⟩
abbrev cX8_takeThing : ByteArray := prog_10_method_6_code
def yX8_takeThing : MethodName := ⟨RX8, "takeThing", "(LUnfinishedFair$Common;I)Z"⟩
abbrev cX8_takeTrait : ByteArray := prog_10_method_7_code
def yX8_takeTrait : MethodName := ⟨RX8, "takeTrait", "([II)Z"⟩
abbrev cX8_takeNumber : ByteArray := prog_10_method_8_code
def yX8_takeNumber : MethodName := ⟨RX8, "takeNumber", "(I)I"⟩
abbrev cX8_kindAtHand : ByteArray := prog_10_method_9_code
def yX8_kindAtHand : MethodName := ⟨RX8, "kindAtHand", "()I"⟩
abbrev cX8_isAtWord : ByteArray := prog_10_method_10_code
def yX8_isAtWord : MethodName := ⟨RX8, "isAtWord", "(Ljava/lang/String;)Z"⟩
abbrev cX8_nextToken : ByteArray := prog_10_method_11_code
def yX8_nextToken : MethodName := ⟨RX8, "nextToken", "()V"⟩
abbrev cX8_sortOf : ByteArray := prog_10_method_12_code
def yX8_sortOf : MethodName := ⟨RX8, "sortOf", "(I)I"⟩
abbrev cX8_valueAtHand : ByteArray := prog_10_method_13_code
def yX8_valueAtHand : MethodName := ⟨RX8, "valueAtHand", "()I"⟩
def RX9 : String := "UnfinishedFair"
def TX9 : u_T := fun k => match k with
  | 0 => ("UnfinishedFair", "live", "LUnfinishedFair$Common;", true)
  | 1 => ("UnfinishedFair", "trial", "LUnfinishedFair$Common;", true)
  | 2 => ("UnfinishedFair", "kept", "LUnfinishedFair$Common;", true)
  | 3 => ("UnfinishedFair", "isKept", "Z", false)
  | 4 => ("UnfinishedFair", "tape", "LUnfinishedFair$Tape;", true)
  | 5 => ("UnfinishedFair", "sheets", "[LUnfinishedFair$Sheet;", true)
  | _ => ("UnfinishedFair", "findings", "[I", true)
def tyX9 : Nat → FieldType := fun k => match k with
  | 0 => .object "UnfinishedFair$Common"
  | 1 => .object "UnfinishedFair$Common"
  | 2 => .object "UnfinishedFair$Common"
  | 3 => .boolean
  | 4 => .object "UnfinishedFair$Tape"
  | 5 => .array (.object "UnfinishedFair$Sheet")
  | _ => .array .int
theorem nmX9 : ∀ a, a < 7 → ∀ b, b < 7 → a ≠ b → (TX9 a).2.1 ≠ (TX9 b).2.1 := by decide +kernel
theorem tyX9_ok : ∀ k, k < 7 → parseFieldDescriptor (TX9 k).2.2.1 = some (tyX9 k) := by decide +kernel
abbrev cX9_init : ByteArray := prog_1_method_1_code
def yX9_init : MethodName := ⟨RX9, "<init>", "()V"⟩
abbrev cX9_person : ByteArray := prog_1_method_2_code
def yX9_person : MethodName := ⟨RX9, "person", "(III)I"⟩
abbrev cX9_personOf : ByteArray := prog_1_method_3_code
def yX9_personOf : MethodName := ⟨RX9, "personOf", "(II)I"⟩
abbrev cX9_thing : ByteArray := prog_1_method_4_code
def yX9_thing : MethodName := ⟨RX9, "thing", "(II)I"⟩
abbrev cX9_of : ByteArray := prog_1_method_5_code
def yX9_of : MethodName := ⟨RX9, "of", "(II)I"⟩
abbrev cX9_by : ByteArray := prog_1_method_6_code
def yX9_by : MethodName := ⟨RX9, "by", "(III)I"⟩
abbrev cX9_set : ByteArray := prog_1_method_7_code
def yX9_set : MethodName := ⟨RX9, "set", "(III)I"⟩
abbrev cX9_turn : ByteArray := prog_1_method_8_code
def yX9_turn : MethodName := ⟨RX9, "turn", "(II)I"⟩
abbrev cX9_as : ByteArray := prog_1_method_9_code
def yX9_as : MethodName := ⟨RX9, "as", "(II)I"⟩
abbrev cX9_leave : ByteArray := prog_1_method_10_code
def yX9_leave : MethodName := ⟨RX9, "leave", "(I)I"⟩
abbrev cX9_goesTo : ByteArray := prog_1_method_11_code
def yX9_goesTo : MethodName := ⟨RX9, "goesTo", "(I)I"⟩
abbrev cX9_years : ByteArray := prog_1_method_12_code
def yX9_years : MethodName := ⟨RX9, "years", "(I)I"⟩
abbrev cX9_now : ByteArray := prog_1_method_13_code
def yX9_now : MethodName := ⟨RX9, "now", "(I)I"⟩
abbrev cX9_on : ByteArray := prog_1_method_14_code
def yX9_on : MethodName := ⟨RX9, "on", "(III)I"⟩
abbrev cX9_then : ByteArray := prog_1_method_15_code
def yX9_then : MethodName := ⟨RX9, "then", "(III)I"⟩
abbrev cX9_finished : ByteArray := prog_1_method_16_code
def yX9_finished : MethodName := ⟨RX9, "finished", "(I)I"⟩
abbrev cX9_comes : ByteArray := prog_1_method_17_code
def yX9_comes : MethodName := ⟨RX9, "comes", "(II)I"⟩
abbrev cX9_all : ByteArray := prog_1_method_18_code
def yX9_all : MethodName := ⟨RX9, "all", "()I"⟩
abbrev cX9_give : ByteArray := prog_1_method_19_code
def yX9_give : MethodName := ⟨RX9, "give", "(I)I"⟩
abbrev cX9_kind : ByteArray := prog_1_method_20_code
def yX9_kind : MethodName := ⟨RX9, "kind", "(I)I"⟩
abbrev cX9_zeal : ByteArray := prog_1_method_21_code
def yX9_zeal : MethodName := ⟨RX9, "zeal", "(III)I"⟩
abbrev cX9_skill : ByteArray := prog_1_method_22_code
def yX9_skill : MethodName := ⟨RX9, "skill", "(II)I"⟩
abbrev cX9_maker : ByteArray := prog_1_method_23_code
def yX9_maker : MethodName := ⟨RX9, "maker", "(I)I"⟩
abbrev cX9_drop : ByteArray := prog_1_method_24_code
def yX9_drop : MethodName := ⟨RX9, "drop", "(I)I"⟩
abbrev cX9_feed : ByteArray := prog_1_method_25_code
def yX9_feed : MethodName := ⟨RX9, "feed", "(II)I"⟩
abbrev cX9_wipe : ByteArray := prog_1_method_26_code
def yX9_wipe : MethodName := ⟨RX9, "wipe", "()I"⟩
abbrev cX9_common : ByteArray := prog_1_method_27_code
def yX9_common : MethodName := ⟨RX9, "common", "()I"⟩
abbrev cX9_sheet : ByteArray := prog_1_method_28_code
def yX9_sheet : MethodName := ⟨RX9, "sheet", "(III)I"⟩
abbrev cX9_write : ByteArray := prog_1_method_29_code
def yX9_write : MethodName := ⟨RX9, "write", "(IIJ)J"⟩
abbrev cX9_copy : ByteArray := prog_1_method_30_code
def yX9_copy : MethodName := ⟨RX9, "copy", "(IIIII)I"⟩
abbrev cX9_lays : ByteArray := prog_1_method_31_code
def yX9_lays : MethodName := ⟨RX9, "lays", "(I)I"⟩
abbrev cX9_book : ByteArray := prog_1_method_32_code
def yX9_book : MethodName := ⟨RX9, "book", "(II)I"⟩
abbrev cX9_read : ByteArray := prog_1_method_33_code
def yX9_read : MethodName := ⟨RX9, "read", "(III)I"⟩
abbrev cX9_image : ByteArray := prog_1_method_34_code
def yX9_image : MethodName := ⟨RX9, "image", "()I"⟩
abbrev cX9_undo : ByteArray := prog_1_method_35_code
def yX9_undo : MethodName := ⟨RX9, "undo", "()I"⟩
abbrev cX9_tear : ByteArray := prog_1_method_36_code
def yX9_tear : MethodName := ⟨RX9, "tear", "()I"⟩
abbrev cX9_count : ByteArray := prog_1_method_37_code
def yX9_count : MethodName := ⟨RX9, "count", "(I)I"⟩
abbrev cX9_status : ByteArray := prog_1_method_38_code
def yX9_status : MethodName := ⟨RX9, "status", "(I)I"⟩
abbrev cX9_found : ByteArray := prog_1_method_39_code
def yX9_found : MethodName := ⟨RX9, "found", "(I)I"⟩
abbrev cX9_isThing : ByteArray := prog_1_method_40_code
def yX9_isThing : MethodName := ⟨RX9, "isThing", "(I)Z"⟩
abbrev cX9_trialYearsToFinish : ByteArray := prog_1_method_41_code
def yX9_trialYearsToFinish : MethodName := ⟨RX9, "trialYearsToFinish", "(II)I"⟩
abbrev cX9_trialGoesAsTold : ByteArray := prog_1_method_42_code
def yX9_trialGoesAsTold : MethodName := ⟨RX9, "trialGoesAsTold", "(LUnfinishedFair$Sheet;I)Z"⟩
abbrev cX9_isWithin : ByteArray := prog_1_method_43_code
def yX9_isWithin : MethodName := ⟨RX9, "isWithin", "(III)Z"⟩
abbrev cX9_isPerson : ByteArray := prog_1_method_44_code
def yX9_isPerson : MethodName := ⟨RX9, "isPerson", "(I)Z"⟩
abbrev cX9_isKind : ByteArray := prog_1_method_45_code
def yX9_isKind : MethodName := ⟨RX9, "isKind", "(I)Z"⟩
abbrev cX9_isSheet : ByteArray := prog_1_method_46_code
def yX9_isSheet : MethodName := ⟨RX9, "isSheet", "(I)Z"⟩
abbrev cX9_isWidth : ByteArray := prog_1_method_47_code
def yX9_isWidth : MethodName := ⟨RX9, "isWidth", "(I)Z"⟩
abbrev cX9_isOrIsUnder : ByteArray := prog_1_method_48_code
def yX9_isOrIsUnder : MethodName := ⟨RX9, "isOrIsUnder", "(II)Z"⟩
abbrev cX9_exchange : ByteArray := prog_1_method_49_code
def yX9_exchange : MethodName := ⟨RX9, "exchange", "([III)I"⟩
abbrev cX9_sum : ByteArray := prog_1_method_50_code
def yX9_sum : MethodName := ⟨RX9, "sum", "([II)I"⟩
def RX10 : String := "UnfinishedFairModel"
def TX10 : u_T := fun k => match k with
  | 0 => ("UnfinishedFairModel", "m", "[I", true)
  | 1 => ("UnfinishedFairModel", "kept", "[I", true)
  | 2 => ("UnfinishedFairModel", "was", "[I", true)
  | 3 => ("UnfinishedFairModel", "isKept", "Z", false)
  | 4 => ("UnfinishedFairModel", "found", "[I", true)
  | 5 => ("UnfinishedFairModel", "tape", "[I", true)
  | 6 => ("UnfinishedFairModel", "taped", "I", false)
  | 7 => ("UnfinishedFairModel", "token", "I", false)
  | 8 => ("UnfinishedFairModel", "begin", "I", false)
  | 9 => ("UnfinishedFairModel", "at", "I", false)
  | 10 => ("UnfinishedFairModel", "value", "I", false)
  | 11 => ("UnfinishedFairModel", "bad", "Z", false)
  | 12 => ("UnfinishedFairModel", "bitsOf", "[I", true)
  | 13 => ("UnfinishedFairModel", "sizeOf", "[I", true)
  | _ => ("UnfinishedFairModel", "cells", "[J", true)
def tyX10 : Nat → FieldType := fun k => match k with
  | 0 => .array .int
  | 1 => .array .int
  | 2 => .array .int
  | 3 => .boolean
  | 4 => .array .int
  | 5 => .array .int
  | 6 => .int
  | 7 => .int
  | 8 => .int
  | 9 => .int
  | 10 => .int
  | 11 => .boolean
  | 12 => .array .int
  | 13 => .array .int
  | _ => .array .long
theorem nmX10 : ∀ a, a < 15 → ∀ b, b < 15 → a ≠ b → (TX10 a).2.1 ≠ (TX10 b).2.1 := by decide +kernel
theorem tyX10_ok : ∀ k, k < 15 → parseFieldDescriptor (TX10 k).2.2.1 = some (tyX10 k) := by decide +kernel
abbrev cX10_init : ByteArray := prog_12_method_1_code
def yX10_init : MethodName := ⟨RX10, "<init>", "()V"⟩
abbrev cX10_finds : ByteArray := prog_12_method_2_code
def yX10_finds : MethodName := ⟨RX10, "finds", "(I)I"⟩
abbrev cX10_orNone : ByteArray := prog_12_method_3_code
def yX10_orNone : MethodName := ⟨RX10, "orNone", "(I)I"⟩
abbrev cX10_in : ByteArray := prog_12_method_4_code
def yX10_in : MethodName := ⟨RX10, "in", "(JII)Z"⟩
abbrev cX10_held : ByteArray := prog_12_method_5_code
def yX10_held : MethodName := ⟨RX10, "held", "(III)I"⟩
abbrev cX10_copyAll : ByteArray := prog_12_method_6_code
def yX10_copyAll : MethodName := ⟨RX10, "copyAll", "([I[I)V"⟩
abbrev cX10_becomes : ByteArray := prog_12_method_7_code
def yX10_becomes : MethodName := ⟨RX10, "becomes", "(II)I"⟩
abbrev cX10_isThing : ByteArray := prog_12_method_8_code
def yX10_isThing : MethodName := ⟨RX10, "isThing", "(I)Z"⟩
abbrev cX10_isPerson : ByteArray := prog_12_method_9_code
def yX10_isPerson : MethodName := ⟨RX10, "isPerson", "(I)Z"⟩
abbrev cX10_it : ByteArray := prog_12_method_10_code
def yX10_it : MethodName := ⟨RX10, "it", "(II)I"⟩
abbrev cX10_put : ByteArray := prog_12_method_11_code
def yX10_put : MethodName := ⟨RX10, "put", "(III)V"⟩
abbrev cX10_his : ByteArray := prog_12_method_12_code
def yX10_his : MethodName := ⟨RX10, "his", "(II)I"⟩
abbrev cX10_gets : ByteArray := prog_12_method_13_code
def yX10_gets : MethodName := ⟨RX10, "gets", "(III)V"⟩
abbrev cX10_isDone : ByteArray := prog_12_method_14_code
def yX10_isDone : MethodName := ⟨RX10, "isDone", "(I)Z"⟩
abbrev cX10_mayBe : ByteArray := prog_12_method_15_code
def yX10_mayBe : MethodName := ⟨RX10, "mayBe", "(II)Z"⟩
abbrev cX10_person : ByteArray := prog_12_method_16_code
def yX10_person : MethodName := ⟨RX10, "person", "(III)I"⟩
abbrev cX10_withOf : ByteArray := prog_12_method_17_code
def yX10_withOf : MethodName := ⟨RX10, "withOf", "(I)I"⟩
abbrev cX10_openOf : ByteArray := prog_12_method_18_code
def yX10_openOf : MethodName := ⟨RX10, "openOf", "(I)I"⟩
abbrev cX10_personOf : ByteArray := prog_12_method_19_code
def yX10_personOf : MethodName := ⟨RX10, "personOf", "(II)I"⟩
abbrev cX10_goesOn : ByteArray := prog_12_method_20_code
def yX10_goesOn : MethodName := ⟨RX10, "goesOn", "(II)I"⟩
abbrev cX10_tires : ByteArray := prog_12_method_21_code
def yX10_tires : MethodName := ⟨RX10, "tires", "(I)I"⟩
abbrev cX10_bids : ByteArray := prog_12_method_22_code
def yX10_bids : MethodName := ⟨RX10, "bids", "(II)I"⟩
abbrev cX10_asked : ByteArray := prog_12_method_23_code
def yX10_asked : MethodName := ⟨RX10, "asked", "(I)I"⟩
abbrev cX10_comesAs : ByteArray := prog_12_method_24_code
def yX10_comesAs : MethodName := ⟨RX10, "comesAs", "(IIII)I"⟩
abbrev cX10_thing : ByteArray := prog_12_method_25_code
def yX10_thing : MethodName := ⟨RX10, "thing", "(II)I"⟩
abbrev cX10_of : ByteArray := prog_12_method_26_code
def yX10_of : MethodName := ⟨RX10, "of", "(II)I"⟩
abbrev cX10_by : ByteArray := prog_12_method_27_code
def yX10_by : MethodName := ⟨RX10, "by", "(III)I"⟩
abbrev cX10_set : ByteArray := prog_12_method_28_code
def yX10_set : MethodName := ⟨RX10, "set", "(III)I"⟩
abbrev cX10_turn : ByteArray := prog_12_method_29_code
def yX10_turn : MethodName := ⟨RX10, "turn", "(II)I"⟩
abbrev cX10_as : ByteArray := prog_12_method_30_code
def yX10_as : MethodName := ⟨RX10, "as", "(II)I"⟩
abbrev cX10_canLeave : ByteArray := prog_12_method_31_code
def yX10_canLeave : MethodName := ⟨RX10, "canLeave", "(I)Z"⟩
abbrev cX10_leaves : ByteArray := prog_12_method_32_code
def yX10_leaves : MethodName := ⟨RX10, "leaves", "(I)I"⟩
abbrev cX10_leave : ByteArray := prog_12_method_33_code
def yX10_leave : MethodName := ⟨RX10, "leave", "(I)I"⟩
abbrev cX10_winner : ByteArray := prog_12_method_34_code
def yX10_winner : MethodName := ⟨RX10, "winner", "(I)I"⟩
abbrev cX10_goesTo : ByteArray := prog_12_method_35_code
def yX10_goesTo : MethodName := ⟨RX10, "goesTo", "(I)I"⟩
abbrev cX10_worksOn : ByteArray := prog_12_method_36_code
def yX10_worksOn : MethodName := ⟨RX10, "worksOn", "(I)V"⟩
abbrev cX10_goes : ByteArray := prog_12_method_37_code
def yX10_goes : MethodName := ⟨RX10, "goes", "()V"⟩
abbrev cX10_goesFor : ByteArray := prog_12_method_38_code
def yX10_goesFor : MethodName := ⟨RX10, "goesFor", "(I)V"⟩
abbrev cX10_doneOnes : ByteArray := prog_12_method_39_code
def yX10_doneOnes : MethodName := ⟨RX10, "doneOnes", "()I"⟩
abbrev cX10_areDone : ByteArray := prog_12_method_40_code
def yX10_areDone : MethodName := ⟨RX10, "areDone", "()Z"⟩
abbrev cX10_years : ByteArray := prog_12_method_41_code
def yX10_years : MethodName := ⟨RX10, "years", "(I)I"⟩
abbrev cX10_sums : ByteArray := prog_12_method_42_code
def yX10_sums : MethodName := ⟨RX10, "sums", "(I)I"⟩
abbrev cX10_allMade : ByteArray := prog_12_method_43_code
def yX10_allMade : MethodName := ⟨RX10, "allMade", "()I"⟩
abbrev cX10_now : ByteArray := prog_12_method_44_code
def yX10_now : MethodName := ⟨RX10, "now", "(I)I"⟩
abbrev cX10_thinks : ByteArray := prog_12_method_45_code
def yX10_thinks : MethodName := ⟨RX10, "thinks", "()V"⟩
abbrev cX10_putsBack : ByteArray := prog_12_method_46_code
def yX10_putsBack : MethodName := ⟨RX10, "putsBack", "()V"⟩
abbrev cX10_on : ByteArray := prog_12_method_47_code
def yX10_on : MethodName := ⟨RX10, "on", "(III)I"⟩
abbrev cX10_then : ByteArray := prog_12_method_48_code
def yX10_then : MethodName := ⟨RX10, "then", "(III)I"⟩
abbrev cX10_doneIn : ByteArray := prog_12_method_49_code
def yX10_doneIn : MethodName := ⟨RX10, "doneIn", "(II)I"⟩
abbrev cX10_finished : ByteArray := prog_12_method_50_code
def yX10_finished : MethodName := ⟨RX10, "finished", "(I)I"⟩
abbrev cX10_comes : ByteArray := prog_12_method_51_code
def yX10_comes : MethodName := ⟨RX10, "comes", "(II)I"⟩
abbrev cX10_all : ByteArray := prog_12_method_52_code
def yX10_all : MethodName := ⟨RX10, "all", "()I"⟩
abbrev cX10_soonestBy : ByteArray := prog_12_method_53_code
def yX10_soonestBy : MethodName := ⟨RX10, "soonestBy", "(III)I"⟩
abbrev cX10_give : ByteArray := prog_12_method_54_code
def yX10_give : MethodName := ⟨RX10, "give", "(I)I"⟩
abbrev cX10_kind : ByteArray := prog_12_method_55_code
def yX10_kind : MethodName := ⟨RX10, "kind", "(I)I"⟩
abbrev cX10_zeal : ByteArray := prog_12_method_56_code
def yX10_zeal : MethodName := ⟨RX10, "zeal", "(III)I"⟩
abbrev cX10_skill : ByteArray := prog_12_method_57_code
def yX10_skill : MethodName := ⟨RX10, "skill", "(II)I"⟩
abbrev cX10_maker : ByteArray := prog_12_method_58_code
def yX10_maker : MethodName := ⟨RX10, "maker", "(I)I"⟩
abbrev cX10_drop : ByteArray := prog_12_method_59_code
def yX10_drop : MethodName := ⟨RX10, "drop", "(I)I"⟩
abbrev cX10_feed : ByteArray := prog_12_method_60_code
def yX10_feed : MethodName := ⟨RX10, "feed", "(II)I"⟩
abbrev cX10_wipe : ByteArray := prog_12_method_61_code
def yX10_wipe : MethodName := ⟨RX10, "wipe", "()I"⟩
abbrev cX10_isByte : ByteArray := prog_12_method_62_code
def yX10_isByte : MethodName := ⟨RX10, "isByte", "(III)Z"⟩
abbrev cX10_isName : ByteArray := prog_12_method_63_code
def yX10_isName : MethodName := ⟨RX10, "isName", "(II)Z"⟩
abbrev cX10_wordHere : ByteArray := prog_12_method_64_code
def yX10_wordHere : MethodName := ⟨RX10, "wordHere", "()I"⟩
abbrev cX10_reads : ByteArray := prog_12_method_65_code
def yX10_reads : MethodName := ⟨RX10, "reads", "()V"⟩
abbrev cX10_passes : ByteArray := prog_12_method_66_code
def yX10_passes : MethodName := ⟨RX10, "passes", "(I)Z"⟩
abbrev cX10_number : ByteArray := prog_12_method_67_code
def yX10_number : MethodName := ⟨RX10, "number", "(II)I"⟩
abbrev cX10_perhaps : ByteArray := prog_12_method_68_code
def yX10_perhaps : MethodName := ⟨RX10, "perhaps", "(IIII)I"⟩
abbrev cX10_thingItem : ByteArray := prog_12_method_69_code
def yX10_thingItem : MethodName := ⟨RX10, "thingItem", "()V"⟩
abbrev cX10_personItem : ByteArray := prog_12_method_70_code
def yX10_personItem : MethodName := ⟨RX10, "personItem", "()V"⟩
abbrev cX10_item : ByteArray := prog_12_method_71_code
def yX10_item : MethodName := ⟨RX10, "item", "()V"⟩
abbrev cX10_common : ByteArray := prog_12_method_72_code
def yX10_common : MethodName := ⟨RX10, "common", "()I"⟩
abbrev cX10_isSheet : ByteArray := prog_12_method_73_code
def yX10_isSheet : MethodName := ⟨RX10, "isSheet", "(I)Z"⟩
abbrev cX10_sheet : ByteArray := prog_12_method_74_code
def yX10_sheet : MethodName := ⟨RX10, "sheet", "(III)I"⟩
abbrev cX10_notThere : ByteArray := prog_12_method_75_code
def yX10_notThere : MethodName := ⟨RX10, "notThere", "(I)I"⟩
abbrev cX10_cutTo : ByteArray := prog_12_method_76_code
def yX10_cutTo : MethodName := ⟨RX10, "cutTo", "(IJ)J"⟩
abbrev cX10_write : ByteArray := prog_12_method_77_code
def yX10_write : MethodName := ⟨RX10, "write", "(IIJ)J"⟩
abbrev cX10_notCopied : ByteArray := prog_12_method_78_code
def yX10_notCopied : MethodName := ⟨RX10, "notCopied", "(IIIII)I"⟩
abbrev cX10_copy : ByteArray := prog_12_method_79_code
def yX10_copy : MethodName := ⟨RX10, "copy", "(IIIII)I"⟩
abbrev cX10_lays : ByteArray := prog_12_method_80_code
def yX10_lays : MethodName := ⟨RX10, "lays", "(I)I"⟩
abbrev cX10_notAsked : ByteArray := prog_12_method_81_code
def yX10_notAsked : MethodName := ⟨RX10, "notAsked", "(II)I"⟩
abbrev cX10_book : ByteArray := prog_12_method_82_code
def yX10_book : MethodName := ⟨RX10, "book", "(II)I"⟩
abbrev cX10_isBook : ByteArray := prog_12_method_83_code
def yX10_isBook : MethodName := ⟨RX10, "isBook", "(II)Z"⟩
abbrev cX10_read : ByteArray := prog_12_method_84_code
def yX10_read : MethodName := ⟨RX10, "read", "(III)I"⟩
abbrev cX10_image : ByteArray := prog_12_method_85_code
def yX10_image : MethodName := ⟨RX10, "image", "()I"⟩
abbrev cX10_undo : ByteArray := prog_12_method_86_code
def yX10_undo : MethodName := ⟨RX10, "undo", "()I"⟩
abbrev cX10_tear : ByteArray := prog_12_method_87_code
def yX10_tear : MethodName := ⟨RX10, "tear", "()I"⟩
abbrev cX10_howMany : ByteArray := prog_12_method_88_code
def yX10_howMany : MethodName := ⟨RX10, "howMany", "()I"⟩
abbrev cX10_count : ByteArray := prog_12_method_89_code
def yX10_count : MethodName := ⟨RX10, "count", "(I)I"⟩
abbrev cX10_status : ByteArray := prog_12_method_90_code
def yX10_status : MethodName := ⟨RX10, "status", "(I)I"⟩
def RJx145de : String := "java/io/Serializable"
def TJx145de : u_T := fun k => match k with
  | _ => ("", "", "", false)
def tyJx145de : Nat → FieldType := fun k => match k with
  | _ => .int
theorem nmJx145de : ∀ a, a < 0 → ∀ b, b < 0 → a ≠ b → (TJx145de a).2.1 ≠ (TJx145de b).2.1 := by decide +kernel
theorem tyJx145de_ok : ∀ k, k < 0 → parseFieldDescriptor (TJx145de k).2.2.1 = some (tyJx145de k) := by decide +kernel
def RJx9f9b0 : String := "java/lang/CharSequence"
def TJx9f9b0 : u_T := fun k => match k with
  | _ => ("", "", "", false)
def tyJx9f9b0 : Nat → FieldType := fun k => match k with
  | _ => .int
theorem nmJx9f9b0 : ∀ a, a < 0 → ∀ b, b < 0 → a ≠ b → (TJx9f9b0 a).2.1 ≠ (TJx9f9b0 b).2.1 := by decide +kernel
theorem tyJx9f9b0_ok : ∀ k, k < 0 → parseFieldDescriptor (TJx9f9b0 k).2.2.1 = some (tyJx9f9b0 k) := by decide +kernel
def RJxb160c : String := "java/lang/Comparable"
def TJxb160c : u_T := fun k => match k with
  | _ => ("", "", "", false)
def tyJxb160c : Nat → FieldType := fun k => match k with
  | _ => .int
theorem nmJxb160c : ∀ a, a < 0 → ∀ b, b < 0 → a ≠ b → (TJxb160c a).2.1 ≠ (TJxb160c b).2.1 := by decide +kernel
theorem tyJxb160c_ok : ∀ k, k < 0 → parseFieldDescriptor (TJxb160c k).2.2.1 = some (tyJxb160c k) := by decide +kernel
def RJ6 : String := "java/lang/Integer"
def TJ6 : u_T := fun k => match k with
  | _ => ("", "", "", false)
def tyJ6 : Nat → FieldType := fun k => match k with
  | _ => .int
theorem nmJ6 : ∀ a, a < 0 → ∀ b, b < 0 → a ≠ b → (TJ6 a).2.1 ≠ (TJ6 b).2.1 := by decide +kernel
theorem tyJ6_ok : ∀ k, k < 0 → parseFieldDescriptor (TJ6 k).2.2.1 = some (tyJ6 k) := by decide +kernel
abbrev cJ6_bitCount_0f7a4 : ByteArray := prog_13_method_49_code
def yJ6_bitCount_0f7a4 : MethodName := ⟨RJ6, "bitCount", "(I)I"⟩
def RJ9 : String := "java/lang/Math"
def TJ9 : u_T := fun k => match k with
  | _ => ("", "", "", false)
def tyJ9 : Nat → FieldType := fun k => match k with
  | _ => .int
theorem nmJ9 : ∀ a, a < 0 → ∀ b, b < 0 → a ≠ b → (TJ9 a).2.1 ≠ (TJ9 b).2.1 := by decide +kernel
theorem tyJ9_ok : ∀ k, k < 0 → parseFieldDescriptor (TJ9 k).2.2.1 = some (tyJ9 k) := by decide +kernel
abbrev cJ9_max_7cf53 : ByteArray := prog_14_method_65_code
def yJ9_max_7cf53 : MethodName := ⟨RJ9, "max", "(II)I"⟩
abbrev cJ9_min_7cf53 : ByteArray := prog_14_method_69_code
def yJ9_min_7cf53 : MethodName := ⟨RJ9, "min", "(II)I"⟩
def RJ0 : String := "java/lang/String"
def TJ0 : u_T := fun k => match k with
  | _ => ("", "", "", false)
def tyJ0 : Nat → FieldType := fun k => match k with
  | _ => .int
theorem nmJ0 : ∀ a, a < 0 → ∀ b, b < 0 → a ≠ b → (TJ0 a).2.1 ≠ (TJ0 b).2.1 := by decide +kernel
theorem tyJ0_ok : ∀ k, k < 0 → parseFieldDescriptor (TJ0 k).2.2.1 = some (tyJ0 k) := by decide +kernel
abbrev cJ0_length_8abf5 : ByteArray := prog_15_method_54_code
def yJ0_length_8abf5 : MethodName := ⟨RJ0, "length", "()I"⟩
abbrev cJ0_charAt_5068e : ByteArray := prog_15_method_56_code
def yJ0_charAt_5068e : MethodName := ⟨RJ0, "charAt", "(I)C"⟩
abbrev cJ0_coder_7d493 : ByteArray := prog_15_method_152_code
def yJ0_coder_7d493 : MethodName := ⟨RJ0, "coder", "()B"⟩
abbrev cJ0_isLatin1_aae02 : ByteArray := prog_15_method_154_code
def yJ0_isLatin1_aae02 : MethodName := ⟨RJ0, "isLatin1", "()Z"⟩
abbrev cJ0_checkIndex_df160 : ByteArray := prog_15_method_155_code
def yJ0_checkIndex_df160 : MethodName := ⟨RJ0, "checkIndex", "(II)V"⟩
def RJ1 : String := "java/lang/StringLatin1"
def TJ1 : u_T := fun k => match k with
  | _ => ("", "", "", false)
def tyJ1 : Nat → FieldType := fun k => match k with
  | _ => .int
theorem nmJ1 : ∀ a, a < 0 → ∀ b, b < 0 → a ≠ b → (TJ1 a).2.1 ≠ (TJ1 b).2.1 := by decide +kernel
theorem tyJ1_ok : ∀ k, k < 0 → parseFieldDescriptor (TJ1 k).2.2.1 = some (tyJ1 k) := by decide +kernel
abbrev cJ1_charAt_3b067 : ByteArray := prog_16_method_2_code
def yJ1_charAt_3b067 : MethodName := ⟨RJ1, "charAt", "([BI)C"⟩
def RJ2 : String := "java/lang/StringUTF16"
def TJ2 : u_T := fun k => match k with
  | _ => ("", "", "", false)
def tyJ2 : Nat → FieldType := fun k => match k with
  | _ => .int
theorem nmJ2 : ∀ a, a < 0 → ∀ b, b < 0 → a ≠ b → (TJ2 a).2.1 ≠ (TJ2 b).2.1 := by decide +kernel
theorem tyJ2_ok : ∀ k, k < 0 → parseFieldDescriptor (TJ2 k).2.2.1 = some (tyJ2 k) := by decide +kernel
abbrev cJ2_getChar_3b067 : ByteArray := prog_17_method_5_code
def yJ2_getChar_3b067 : MethodName := ⟨RJ2, "getChar", "([BI)C"⟩
abbrev cJ2_length_9d52b : ByteArray := prog_17_method_6_code
def yJ2_length_9d52b : MethodName := ⟨RJ2, "length", "([B)I"⟩
abbrev cJ2_charAt_3b067 : ByteArray := prog_17_method_83_code
def yJ2_charAt_3b067 : MethodName := ⟨RJ2, "charAt", "([BI)C"⟩
abbrev cJ2_checkIndex_2214a : ByteArray := prog_17_method_91_code
def yJ2_checkIndex_2214a : MethodName := ⟨RJ2, "checkIndex", "(I[B)V"⟩
def RJ10 : String := "java/lang/System"
def TJ10 : u_T := fun k => match k with
  | _ => ("", "", "", false)
def tyJ10 : Nat → FieldType := fun k => match k with
  | _ => .int
theorem nmJ10 : ∀ a, a < 0 → ∀ b, b < 0 → a ≠ b → (TJ10 a).2.1 ≠ (TJ10 b).2.1 := by decide +kernel
theorem tyJ10_ok : ∀ k, k < 0 → parseFieldDescriptor (TJ10 k).2.2.1 = some (tyJ10 k) := by decide +kernel
def RJxfd54e : String := "java/lang/constant/Constable"
def TJxfd54e : u_T := fun k => match k with
  | _ => ("", "", "", false)
def tyJxfd54e : Nat → FieldType := fun k => match k with
  | _ => .int
theorem nmJxfd54e : ∀ a, a < 0 → ∀ b, b < 0 → a ≠ b → (TJxfd54e a).2.1 ≠ (TJxfd54e b).2.1 := by decide +kernel
theorem tyJxfd54e_ok : ∀ k, k < 0 → parseFieldDescriptor (TJxfd54e k).2.2.1 = some (tyJxfd54e k) := by decide +kernel
def RJx3cf43 : String := "java/lang/constant/ConstantDesc"
def TJx3cf43 : u_T := fun k => match k with
  | _ => ("", "", "", false)
def tyJx3cf43 : Nat → FieldType := fun k => match k with
  | _ => .int
theorem nmJx3cf43 : ∀ a, a < 0 → ∀ b, b < 0 → a ≠ b → (TJx3cf43 a).2.1 ≠ (TJx3cf43 b).2.1 := by decide +kernel
theorem tyJx3cf43_ok : ∀ k, k < 0 → parseFieldDescriptor (TJx3cf43 k).2.2.1 = some (tyJx3cf43 k) := by decide +kernel
def RJ7 : String := "java/util/Arrays"
def TJ7 : u_T := fun k => match k with
  | _ => ("", "", "", false)
def tyJ7 : Nat → FieldType := fun k => match k with
  | _ => .int
theorem nmJ7 : ∀ a, a < 0 → ∀ b, b < 0 → a ≠ b → (TJ7 a).2.1 ≠ (TJ7 b).2.1 := by decide +kernel
theorem tyJ7_ok : ∀ k, k < 0 → parseFieldDescriptor (TJ7 k).2.2.1 = some (tyJ7 k) := by decide +kernel
abbrev cJ7_fill_d0a16 : ByteArray := prog_19_method_101_code
def yJ7_fill_d0a16 : MethodName := ⟨RJ7, "fill", "([JJ)V"⟩
abbrev cJ7_fill_53178 : ByteArray := prog_19_method_103_code
def yJ7_fill_53178 : MethodName := ⟨RJ7, "fill", "([II)V"⟩
def RJ3 : String := "jdk/internal/util/Preconditions"
def TJ3 : u_T := fun k => match k with
  | _ => ("", "", "", false)
def tyJ3 : Nat → FieldType := fun k => match k with
  | _ => .int
theorem nmJ3 : ∀ a, a < 0 → ∀ b, b < 0 → a ≠ b → (TJ3 a).2.1 ≠ (TJ3 b).2.1 := by decide +kernel
theorem tyJ3_ok : ∀ k, k < 0 → parseFieldDescriptor (TJ3 k).2.2.1 = some (tyJ3 k) := by decide +kernel
abbrev cJ3_checkIndex_8e157 : ByteArray := prog_20_method_11_code
def yJ3_checkIndex_8e157 : MethodName := ⟨RJ3, "checkIndex", "(IILjava/util/function/BiFunction;)I"⟩
def RL : String := "UnfinishedFairLaw"
abbrev cL_law : ByteArray := code
def yL_law : MethodName := ⟨RL, "law", "([I)Z"⟩
abbrev vwCl : List vw_C := [(RX0, TX0, 1), (RX1, TX1, 1), (RX2, TX2, 11), (RX3, TX3, 1), (RX4, TX4, 1), (RX5, TX5, 1), (RX6, TX6, 1), (RX7, TX7, 3), (RX8, TX8, 6), (RX9, TX9, 7), (RX10, TX10, 15)]
