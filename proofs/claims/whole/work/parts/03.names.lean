def RX0 : String := "ColdHouse$BestSets"
def TX0 : u_T := fun k => match k with
  | 0 => ("ColdHouse$BestSets", "plant", "LColdHouse$Plant;", true)
  | 1 => ("ColdHouse$BestSets", "leastFor", "[I", true)
  | 2 => ("ColdHouse$BestSets", "row", "[I", true)
  | 3 => ("ColdHouse$BestSets", "known", "Z", false)
  | 4 => ("ColdHouse$BestSets", "open", "I", false)
  | _ => ("ColdHouse$BestSets", "lift", "I", false)
def tyX0 : Nat → FieldType := fun k => match k with
  | 0 => .object "ColdHouse$Plant"
  | 1 => .array .int
  | 2 => .array .int
  | 3 => .boolean
  | 4 => .int
  | _ => .int
theorem nmX0 : ∀ a, a < 6 → ∀ b, b < 6 → a ≠ b → (TX0 a).2.1 ≠ (TX0 b).2.1 := by decide +kernel
theorem tyX0_ok : ∀ k, k < 6 → parseFieldDescriptor (TX0 k).2.2.1 = some (tyX0 k) := by decide +kernel
def RX1 : String := "ColdHouse$Past"
def TX1 : u_T := fun k => match k with
  | 0 => ("ColdHouse$Past", "held", "I", false)
  | 1 => ("ColdHouse$Past", "next", "I", false)
  | _ => ("ColdHouse$Past", "states", "[LColdHouse$State;", true)
def tyX1 : Nat → FieldType := fun k => match k with
  | 0 => .int
  | 1 => .int
  | _ => .array (.object "ColdHouse$State")
theorem nmX1 : ∀ a, a < 3 → ∀ b, b < 3 → a ≠ b → (TX1 a).2.1 ≠ (TX1 b).2.1 := by decide +kernel
theorem tyX1_ok : ∀ k, k < 3 → parseFieldDescriptor (TX1 k).2.2.1 = some (tyX1 k) := by decide +kernel
def RX2 : String := "ColdHouse$Plant"
def TX2 : u_T := fun k => match k with
  | 0 => ("ColdHouse$Plant", "machines", "I", false)
  | 1 => ("ColdHouse$Plant", "least", "[I", true)
  | 2 => ("ColdHouse$Plant", "most", "[I", true)
  | 3 => ("ColdHouse$Plant", "base", "[I", true)
  | 4 => ("ColdHouse$Plant", "slope", "[I", true)
  | 5 => ("ColdHouse$Plant", "curve", "[I", true)
  | 6 => ("ColdHouse$Plant", "flow", "[I", true)
  | 7 => ("ColdHouse$Plant", "run", "I", false)
  | 8 => ("ColdHouse$Plant", "rest", "I", false)
  | 9 => ("ColdHouse$Plant", "startsAllowed", "I", false)
  | 10 => ("ColdHouse$Plant", "gap", "I", false)
  | 11 => ("ColdHouse$Plant", "up", "I", false)
  | 12 => ("ColdHouse$Plant", "down", "I", false)
  | _ => ("ColdHouse$Plant", "patience", "I", false)
def tyX2 : Nat → FieldType := fun k => match k with
  | 0 => .int
  | 1 => .array .int
  | 2 => .array .int
  | 3 => .array .int
  | 4 => .array .int
  | 5 => .array .int
  | 6 => .array .int
  | 7 => .int
  | 8 => .int
  | 9 => .int
  | 10 => .int
  | 11 => .int
  | 12 => .int
  | _ => .int
theorem nmX2 : ∀ a, a < 14 → ∀ b, b < 14 → a ≠ b → (TX2 a).2.1 ≠ (TX2 b).2.1 := by decide +kernel
theorem tyX2_ok : ∀ k, k < 14 → parseFieldDescriptor (TX2 k).2.2.1 = some (tyX2 k) := by decide +kernel
def RX3 : String := "ColdHouse$Script"
def TX3 : u_T := fun k => match k with
  | 0 => ("ColdHouse$Script", "length", "I", false)
  | 1 => ("ColdHouse$Script", "letters", "[C", true)
  | _ => ("ColdHouse$Script", "numbers", "[I", true)
def tyX3 : Nat → FieldType := fun k => match k with
  | 0 => .int
  | 1 => .array .char
  | _ => .array .int
theorem nmX3 : ∀ a, a < 3 → ∀ b, b < 3 → a ≠ b → (TX3 a).2.1 ≠ (TX3 b).2.1 := by decide +kernel
theorem tyX3_ok : ∀ k, k < 3 → parseFieldDescriptor (TX3 k).2.2.1 = some (tyX3 k) := by decide +kernel
def RX4 : String := "ColdHouse$Sharing"
def TX4 : u_T := fun k => match k with
  | 0 => ("ColdHouse$Sharing", "plant", "LColdHouse$Plant;", true)
  | 1 => ("ColdHouse$Sharing", "leastFor", "[J", true)
  | 2 => ("ColdHouse$Sharing", "row", "[J", true)
  | 3 => ("ColdHouse$Sharing", "known", "Z", false)
  | 4 => ("ColdHouse$Sharing", "set", "I", false)
  | 5 => ("ColdHouse$Sharing", "load", "I", false)
  | 6 => ("ColdHouse$Sharing", "lift", "I", false)
  | 7 => ("ColdHouse$Sharing", "low", "I", false)
  | _ => ("ColdHouse$Sharing", "high", "I", false)
def tyX4 : Nat → FieldType := fun k => match k with
  | 0 => .object "ColdHouse$Plant"
  | 1 => .array .long
  | 2 => .array .long
  | 3 => .boolean
  | 4 => .int
  | 5 => .int
  | 6 => .int
  | 7 => .int
  | _ => .int
theorem nmX4 : ∀ a, a < 9 → ∀ b, b < 9 → a ≠ b → (TX4 a).2.1 ≠ (TX4 b).2.1 := by decide +kernel
theorem tyX4_ok : ∀ k, k < 9 → parseFieldDescriptor (TX4 k).2.2.1 = some (tyX4 k) := by decide +kernel
def RX5 : String := "ColdHouse$Staging"
def TX5 : u_T := fun k => match k with
  | 0 => ("ColdHouse$Staging", "sharing", "LColdHouse$Sharing;", true)
  | _ => ("ColdHouse$Staging", "plant", "LColdHouse$Plant;", true)
def tyX5 : Nat → FieldType := fun k => match k with
  | 0 => .object "ColdHouse$Sharing"
  | _ => .object "ColdHouse$Plant"
theorem nmX5 : ∀ a, a < 2 → ∀ b, b < 2 → a ≠ b → (TX5 a).2.1 ≠ (TX5 b).2.1 := by decide +kernel
theorem tyX5_ok : ∀ k, k < 2 → parseFieldDescriptor (TX5 k).2.2.1 = some (tyX5 k) := by decide +kernel
def RX6 : String := "ColdHouse$State"
def TX6 : u_T := fun k => match k with
  | 0 => ("ColdHouse$State", "told", "[I", true)
  | 1 => ("ColdHouse$State", "ticks", "I", false)
  | 2 => ("ColdHouse$State", "ups", "I", false)
  | 3 => ("ColdHouse$State", "downs", "I", false)
  | 4 => ("ColdHouse$State", "energy", "I", false)
  | 5 => ("ColdHouse$State", "locked", "I", false)
  | 6 => ("ColdHouse$State", "starting", "I", false)
  | 7 => ("ColdHouse$State", "on", "I", false)
  | 8 => ("ColdHouse$State", "lastStart", "I", false)
  | 9 => ("ColdHouse$State", "listed", "I", false)
  | 10 => ("ColdHouse$State", "list", "[I", true)
  | 11 => ("ColdHouse$State", "hours", "[I", true)
  | 12 => ("ColdHouse$State", "starts", "[I", true)
  | 13 => ("ColdHouse$State", "startTicks", "[I", true)
  | _ => ("ColdHouse$State", "stopTick", "[I", true)
def tyX6 : Nat → FieldType := fun k => match k with
  | 0 => .array .int
  | 1 => .int
  | 2 => .int
  | 3 => .int
  | 4 => .int
  | 5 => .int
  | 6 => .int
  | 7 => .int
  | 8 => .int
  | 9 => .int
  | 10 => .array .int
  | 11 => .array .int
  | 12 => .array .int
  | 13 => .array .int
  | _ => .array .int
theorem nmX6 : ∀ a, a < 15 → ∀ b, b < 15 → a ≠ b → (TX6 a).2.1 ≠ (TX6 b).2.1 := by decide +kernel
theorem tyX6_ok : ∀ k, k < 15 → parseFieldDescriptor (TX6 k).2.2.1 = some (tyX6 k) := by decide +kernel
def RX7 : String := "ColdHouse"
def TX7 : u_T := fun k => match k with
  | 0 => ("ColdHouse", "script", "LColdHouse$Script;", true)
  | 1 => ("ColdHouse", "plant", "LColdHouse$Plant;", true)
  | 2 => ("ColdHouse", "state", "LColdHouse$State;", true)
  | 3 => ("ColdHouse", "trial", "LColdHouse$State;", true)
  | 4 => ("ColdHouse", "past", "LColdHouse$Past;", true)
  | 5 => ("ColdHouse", "staging", "LColdHouse$Staging;", true)
  | 6 => ("ColdHouse", "asked", "LColdHouse$Sharing;", true)
  | _ => ("ColdHouse", "bestSets", "LColdHouse$BestSets;", true)
def tyX7 : Nat → FieldType := fun k => match k with
  | 0 => .object "ColdHouse$Script"
  | 1 => .object "ColdHouse$Plant"
  | 2 => .object "ColdHouse$State"
  | 3 => .object "ColdHouse$State"
  | 4 => .object "ColdHouse$Past"
  | 5 => .object "ColdHouse$Staging"
  | 6 => .object "ColdHouse$Sharing"
  | _ => .object "ColdHouse$BestSets"
theorem nmX7 : ∀ a, a < 8 → ∀ b, b < 8 → a ≠ b → (TX7 a).2.1 ≠ (TX7 b).2.1 := by decide +kernel
theorem tyX7_ok : ∀ k, k < 8 → parseFieldDescriptor (TX7 k).2.2.1 = some (tyX7 k) := by decide +kernel
def RX8 : String := "ColdHouseModel"
def TX8 : u_T := fun k => match k with
  | 0 => ("ColdHouseModel", "text", "[I", true)
  | 1 => ("ColdHouseModel", "letters", "I", false)
  | 2 => ("ColdHouseModel", "at", "I", false)
  | 3 => ("ColdHouseModel", "read", "[I", true)
  | 4 => ("ColdHouseModel", "told", "[I", true)
  | 5 => ("ColdHouseModel", "now", "[I", true)
  | 6 => ("ColdHouseModel", "aside", "[I", true)
  | 7 => ("ColdHouseModel", "past", "[I", true)
  | 8 => ("ColdHouseModel", "changes", "I", false)
  | 9 => ("ColdHouseModel", "numbers", "[I", true)
  | 10 => ("ColdHouseModel", "table", "[I", true)
  | 11 => ("ColdHouseModel", "isLaid", "Z", false)
  | 12 => ("ColdHouseModel", "laidLift", "I", false)
  | 13 => ("ColdHouseModel", "makes", "[I", true)
  | _ => ("ColdHouseModel", "bestPower", "I", false)
def tyX8 : Nat → FieldType := fun k => match k with
  | 0 => .array .int
  | 1 => .int
  | 2 => .int
  | 3 => .array .int
  | 4 => .array .int
  | 5 => .array .int
  | 6 => .array .int
  | 7 => .array .int
  | 8 => .int
  | 9 => .array .int
  | 10 => .array .int
  | 11 => .boolean
  | 12 => .int
  | 13 => .array .int
  | _ => .int
theorem nmX8 : ∀ a, a < 15 → ∀ b, b < 15 → a ≠ b → (TX8 a).2.1 ≠ (TX8 b).2.1 := by decide +kernel
theorem tyX8_ok : ∀ k, k < 15 → parseFieldDescriptor (TX8 k).2.2.1 = some (tyX8 k) := by decide +kernel
def RJ6 : String := "java/lang/Integer"
def RJ9 : String := "java/lang/Math"
def RJ0 : String := "java/lang/String"
def RJ1 : String := "java/lang/StringLatin1"
def RJ7 : String := "java/util/Arrays"
def RJ3 : String := "jdk/internal/util/Preconditions"
abbrev cX0_init : ByteArray := prog_2_method_1_code
def yX0_init : MethodName := ⟨RX0, "<init>", "(LColdHouse$Plant;)V"⟩
abbrev cX0_forget : ByteArray := prog_2_method_2_code
def yX0_forget : MethodName := ⟨RX0, "forget", "()V"⟩
abbrev cX0_reckon : ByteArray := prog_2_method_3_code
def yX0_reckon : MethodName := ⟨RX0, "reckon", "(II)V"⟩
abbrev cX0_has : ByteArray := prog_2_method_4_code
def yX0_has : MethodName := ⟨RX0, "has", "(I)Z"⟩
abbrev cX0_setFor : ByteArray := prog_2_method_5_code
def yX0_setFor : MethodName := ⟨RX0, "setFor", "(I)I"⟩
abbrev cX0_leastPower : ByteArray := prog_2_method_6_code
def yX0_leastPower : MethodName := ⟨RX0, "leastPower", "(I)I"⟩
abbrev cX0_addMachine : ByteArray := prog_2_method_7_code
def yX0_addMachine : MethodName := ⟨RX0, "addMachine", "(I)V"⟩
abbrev cX0_fillRow : ByteArray := prog_2_method_8_code
def yX0_fillRow : MethodName := ⟨RX0, "fillRow", "(I)V"⟩
abbrev cX0_leastWith : ByteArray := prog_2_method_9_code
def yX0_leastWith : MethodName := ⟨RX0, "leastWith", "(II)I"⟩
abbrev cX1_init : ByteArray := prog_3_method_1_code
def yX1_init : MethodName := ⟨RX1, "<init>", "()V"⟩
abbrev cX1_forget : ByteArray := prog_3_method_2_code
def yX1_forget : MethodName := ⟨RX1, "forget", "()V"⟩
abbrev cX1_keep : ByteArray := prog_3_method_3_code
def yX1_keep : MethodName := ⟨RX1, "keep", "(LColdHouse$State;)V"⟩
abbrev cX1_giveBack : ByteArray := prog_3_method_4_code
def yX1_giveBack : MethodName := ⟨RX1, "giveBack", "(LColdHouse$State;)Z"⟩
abbrev cX2_init : ByteArray := prog_4_method_1_code
def yX2_init : MethodName := ⟨RX2, "<init>", "()V"⟩
abbrev cX2_reset : ByteArray := prog_4_method_2_code
def yX2_reset : MethodName := ⟨RX2, "reset", "()V"⟩
abbrev cX2_take : ByteArray := prog_4_method_3_code
def yX2_take : MethodName := ⟨RX2, "take", "(C[I)V"⟩
abbrev cX2_takeMachine : ByteArray := prog_4_method_4_code
def yX2_takeMachine : MethodName := ⟨RX2, "takeMachine", "([I)V"⟩
abbrev cX2_all : ByteArray := prog_4_method_5_code
def yX2_all : MethodName := ⟨RX2, "all", "()I"⟩
abbrev cX2_powerAt : ByteArray := prog_4_method_6_code
def yX2_powerAt : MethodName := ⟨RX2, "powerAt", "(III)I"⟩
abbrev cX2_can : ByteArray := prog_4_method_7_code
def yX2_can : MethodName := ⟨RX2, "can", "(II)Z"⟩
abbrev cX2_leasts : ByteArray := prog_4_method_8_code
def yX2_leasts : MethodName := ⟨RX2, "leasts", "(I)I"⟩
abbrev cX2_mosts : ByteArray := prog_4_method_9_code
def yX2_mosts : MethodName := ⟨RX2, "mosts", "(I)I"⟩
abbrev cX2_flows : ByteArray := prog_4_method_10_code
def yX2_flows : MethodName := ⟨RX2, "flows", "(I)I"⟩
abbrev cX2_sumOver : ByteArray := prog_4_method_11_code
def yX2_sumOver : MethodName := ⟨RX2, "sumOver", "(I[I)I"⟩
abbrev cX3_init : ByteArray := prog_5_method_1_code
def yX3_init : MethodName := ⟨RX3, "<init>", "()V"⟩
abbrev cX3_add : ByteArray := prog_5_method_2_code
def yX3_add : MethodName := ⟨RX3, "add", "(C)Z"⟩
abbrev cX3_empty : ByteArray := prog_5_method_3_code
def yX3_empty : MethodName := ⟨RX3, "empty", "()V"⟩
abbrev cX3_firstFault : ByteArray := prog_5_method_4_code
def yX3_firstFault : MethodName := ⟨RX3, "firstFault", "()I"⟩
abbrev cX3_machines : ByteArray := prog_5_method_5_code
def yX3_machines : MethodName := ⟨RX3, "machines", "()I"⟩
abbrev cX3_layInto : ByteArray := prog_5_method_6_code
def yX3_layInto : MethodName := ⟨RX3, "layInto", "(LColdHouse$Plant;)V"⟩
abbrev cX3_readItem : ByteArray := prog_5_method_7_code
def yX3_readItem : MethodName := ⟨RX3, "readItem", "(I)I"⟩
abbrev cX3_readNumbers : ByteArray := prog_5_method_8_code
def yX3_readNumbers : MethodName := ⟨RX3, "readNumbers", "(I[I[I)I"⟩
abbrev cX3_isFigure : ByteArray := prog_5_method_9_code
def yX3_isFigure : MethodName := ⟨RX3, "isFigure", "(I)Z"⟩
abbrev cX3_letterAt : ByteArray := prog_5_method_10_code
def yX3_letterAt : MethodName := ⟨RX3, "letterAt", "(I)C"⟩
abbrev cX4_init : ByteArray := prog_6_method_1_code
def yX4_init : MethodName := ⟨RX4, "<init>", "(LColdHouse$Plant;)V"⟩
abbrev cX4_forget : ByteArray := prog_6_method_2_code
def yX4_forget : MethodName := ⟨RX4, "forget", "()V"⟩
abbrev cX4_find : ByteArray := prog_6_method_3_code
def yX4_find : MethodName := ⟨RX4, "find", "(III)Z"⟩
abbrev cX4_leastPower : ByteArray := prog_6_method_4_code
def yX4_leastPower : MethodName := ⟨RX4, "leastPower", "()I"⟩
abbrev cX4_part : ByteArray := prog_6_method_5_code
def yX4_part : MethodName := ⟨RX4, "part", "(I)I"⟩
abbrev cX4_shiftOf : ByteArray := prog_6_method_6_code
def yX4_shiftOf : MethodName := ⟨RX4, "shiftOf", "(I)I"⟩
abbrev cX4_addMachine : ByteArray := prog_6_method_7_code
def yX4_addMachine : MethodName := ⟨RX4, "addMachine", "(II)V"⟩
abbrev cX4_fillRow : ByteArray := prog_6_method_8_code
def yX4_fillRow : MethodName := ⟨RX4, "fillRow", "(I)V"⟩
abbrev cX4_leastWith : ByteArray := prog_6_method_9_code
def yX4_leastWith : MethodName := ⟨RX4, "leastWith", "(II)J"⟩
abbrev cX5_init : ByteArray := prog_7_method_1_code
def yX5_init : MethodName := ⟨RX5, "<init>", "(LColdHouse$Plant;)V"⟩
abbrev cX5_made : ByteArray := prog_7_method_2_code
def yX5_made : MethodName := ⟨RX5, "made", "(LColdHouse$State;)I"⟩
abbrev cX5_powerNow : ByteArray := prog_7_method_3_code
def yX5_powerNow : MethodName := ⟨RX5, "powerNow", "(LColdHouse$State;)I"⟩
abbrev cX5_madeBy : ByteArray := prog_7_method_4_code
def yX5_madeBy : MethodName := ⟨RX5, "madeBy", "(LColdHouse$State;I)I"⟩
abbrev cX5_pass : ByteArray := prog_7_method_5_code
def yX5_pass : MethodName := ⟨RX5, "pass", "(LColdHouse$State;)V"⟩
abbrev cX5_comeOn : ByteArray := prog_7_method_6_code
def yX5_comeOn : MethodName := ⟨RX5, "comeOn", "(LColdHouse$State;I)V"⟩
abbrev cX5_comeBack : ByteArray := prog_7_method_7_code
def yX5_comeBack : MethodName := ⟨RX5, "comeBack", "(LColdHouse$State;)V"⟩
abbrev cX5_stageUp : ByteArray := prog_7_method_8_code
def yX5_stageUp : MethodName := ⟨RX5, "stageUp", "(LColdHouse$State;)V"⟩
abbrev cX5_stageDown : ByteArray := prog_7_method_9_code
def yX5_stageDown : MethodName := ⟨RX5, "stageDown", "(LColdHouse$State;)V"⟩
abbrev cX5_gapIsOver : ByteArray := prog_7_method_10_code
def yX5_gapIsOver : MethodName := ⟨RX5, "gapIsOver", "(LColdHouse$State;I)Z"⟩
abbrev cX5_mayStart : ByteArray := prog_7_method_11_code
def yX5_mayStart : MethodName := ⟨RX5, "mayStart", "(LColdHouse$State;II)Z"⟩
abbrev cX5_nextToStart : ByteArray := prog_7_method_12_code
def yX5_nextToStart : MethodName := ⟨RX5, "nextToStart", "(LColdHouse$State;)I"⟩
abbrev cX5_nextToStop : ByteArray := prog_7_method_13_code
def yX5_nextToStop : MethodName := ⟨RX5, "nextToStop", "(LColdHouse$State;)I"⟩
abbrev cX5_fall : ByteArray := prog_7_method_14_code
def yX5_fall : MethodName := ⟨RX5, "fall", "(LColdHouse$State;)V"⟩
abbrev cX5_greatestOf : ByteArray := prog_7_method_15_code
def yX5_greatestOf : MethodName := ⟨RX5, "greatestOf", "(I)I"⟩
abbrev cX6_init : ByteArray := prog_8_method_1_code
def yX6_init : MethodName := ⟨RX6, "<init>", "()V"⟩
abbrev cX6_reset : ByteArray := prog_8_method_2_code
def yX6_reset : MethodName := ⟨RX6, "reset", "()V"⟩
abbrev cX6_copyFrom : ByteArray := prog_8_method_3_code
def yX6_copyFrom : MethodName := ⟨RX6, "copyFrom", "(LColdHouse$State;)V"⟩
abbrev cX6_running : ByteArray := prog_8_method_4_code
def yX6_running : MethodName := ⟨RX6, "running", "()I"⟩
abbrev cX6_lift : ByteArray := prog_8_method_5_code
def yX6_lift : MethodName := ⟨RX6, "lift", "()I"⟩
abbrev cX6_startedSoFar : ByteArray := prog_8_method_6_code
def yX6_startedSoFar : MethodName := ⟨RX6, "startedSoFar", "()I"⟩
abbrev cX6_start : ByteArray := prog_8_method_7_code
def yX6_start : MethodName := ⟨RX6, "start", "(I)V"⟩
abbrev cX6_stop : ByteArray := prog_8_method_8_code
def yX6_stop : MethodName := ⟨RX6, "stop", "(I)V"⟩
abbrev cX6_ticksSinceStart : ByteArray := prog_8_method_9_code
def yX6_ticksSinceStart : MethodName := ⟨RX6, "ticksSinceStart", "(II)I"⟩
abbrev cX6_ticksSinceStop : ByteArray := prog_8_method_10_code
def yX6_ticksSinceStop : MethodName := ⟨RX6, "ticksSinceStop", "(II)I"⟩
abbrev cX6_startBack : ByteArray := prog_8_method_11_code
def yX6_startBack : MethodName := ⟨RX6, "startBack", "(II)I"⟩
abbrev cX6_ringPlace : ByteArray := prog_8_method_12_code
def yX6_ringPlace : MethodName := ⟨RX6, "ringPlace", "(II)I"⟩
abbrev cX6_putOnList : ByteArray := prog_8_method_13_code
def yX6_putOnList : MethodName := ⟨RX6, "putOnList", "(I)V"⟩
abbrev cX6_firstOfList : ByteArray := prog_8_method_14_code
def yX6_firstOfList : MethodName := ⟨RX6, "firstOfList", "()I"⟩
abbrev cX6_takeOffList : ByteArray := prog_8_method_15_code
def yX6_takeOffList : MethodName := ⟨RX6, "takeOffList", "(I)V"⟩
abbrev cX6_placeInList : ByteArray := prog_8_method_16_code
def yX6_placeInList : MethodName := ⟨RX6, "placeInList", "(I)I"⟩
abbrev cX7_init : ByteArray := prog_1_method_1_code
def yX7_init : MethodName := ⟨RX7, "<init>", "()V"⟩
abbrev cX7_write : ByteArray := prog_1_method_2_code
def yX7_write : MethodName := ⟨RX7, "write", "(I)I"⟩
abbrev cX7_wipe : ByteArray := prog_1_method_3_code
def yX7_wipe : MethodName := ⟨RX7, "wipe", "()I"⟩
abbrev cX7_fault : ByteArray := prog_1_method_4_code
def yX7_fault : MethodName := ⟨RX7, "fault", "()I"⟩
abbrev cX7_lay : ByteArray := prog_1_method_5_code
def yX7_lay : MethodName := ⟨RX7, "lay", "()I"⟩
abbrev cX7_tell : ByteArray := prog_1_method_6_code
def yX7_tell : MethodName := ⟨RX7, "tell", "(II)I"⟩
abbrev cX7_lock : ByteArray := prog_1_method_7_code
def yX7_lock : MethodName := ⟨RX7, "lock", "(II)I"⟩
abbrev cX7_dip : ByteArray := prog_1_method_8_code
def yX7_dip : MethodName := ⟨RX7, "dip", "()I"⟩
abbrev cX7_tick : ByteArray := prog_1_method_9_code
def yX7_tick : MethodName := ⟨RX7, "tick", "(I)I"⟩
abbrev cX7_undo : ByteArray := prog_1_method_10_code
def yX7_undo : MethodName := ⟨RX7, "undo", "()I"⟩
abbrev cX7_machine : ByteArray := prog_1_method_11_code
def yX7_machine : MethodName := ⟨RX7, "machine", "(II)I"⟩
abbrev cX7_power : ByteArray := prog_1_method_12_code
def yX7_power : MethodName := ⟨RX7, "power", "(III)I"⟩
abbrev cX7_share : ByteArray := prog_1_method_13_code
def yX7_share : MethodName := ⟨RX7, "share", "(III)I"⟩
abbrev cX7_best : ByteArray := prog_1_method_14_code
def yX7_best : MethodName := ⟨RX7, "best", "(II)I"⟩
abbrev cX7_now : ByteArray := prog_1_method_15_code
def yX7_now : MethodName := ⟨RX7, "now", "(I)I"⟩
abbrev cX7_ahead : ByteArray := prog_1_method_16_code
def yX7_ahead : MethodName := ⟨RX7, "ahead", "(II)I"⟩
abbrev cX7_count : ByteArray := prog_1_method_17_code
def yX7_count : MethodName := ⟨RX7, "count", "(I)I"⟩
abbrev cX7_isMachine : ByteArray := prog_1_method_18_code
def yX7_isMachine : MethodName := ⟨RX7, "isMachine", "(I)Z"⟩
abbrev cX7_isLoad : ByteArray := prog_1_method_19_code
def yX7_isLoad : MethodName := ⟨RX7, "isLoad", "(I)Z"⟩
abbrev cX7_bitOf : ByteArray := prog_1_method_20_code
def yX7_bitOf : MethodName := ⟨RX7, "bitOf", "(II)I"⟩
abbrev cX7_aboveBest : ByteArray := prog_1_method_21_code
def yX7_aboveBest : MethodName := ⟨RX7, "aboveBest", "(I)I"⟩
abbrev cX8_init : ByteArray := prog_10_method_1_code
def yX8_init : MethodName := ⟨RX8, "<init>", "()V"⟩
abbrev cX8_in : ByteArray := prog_10_method_2_code
def yX8_in : MethodName := ⟨RX8, "in", "(III)Z"⟩
abbrev cX8_beginRead : ByteArray := prog_10_method_3_code
def yX8_beginRead : MethodName := ⟨RX8, "beginRead", "()V"⟩
abbrev cX8_putMachine : ByteArray := prog_10_method_4_code
def yX8_putMachine : MethodName := ⟨RX8, "putMachine", "(IIIIII)V"⟩
abbrev cX8_takeRead : ByteArray := prog_10_method_5_code
def yX8_takeRead : MethodName := ⟨RX8, "takeRead", "()V"⟩
abbrev cX8_isFigure : ByteArray := prog_10_method_6_code
def yX8_isFigure : MethodName := ⟨RX8, "isFigure", "()Z"⟩
abbrev cX8_readNumbers : ByteArray := prog_10_method_7_code
def yX8_readNumbers : MethodName := ⟨RX8, "readNumbers", "(I)Z"⟩
abbrev cX8_isNumber : ByteArray := prog_10_method_8_code
def yX8_isNumber : MethodName := ⟨RX8, "isNumber", "(III)Z"⟩
abbrev cX8_readMachine : ByteArray := prog_10_method_9_code
def yX8_readMachine : MethodName := ⟨RX8, "readMachine", "()Z"⟩
abbrev cX8_readOther : ByteArray := prog_10_method_10_code
def yX8_readOther : MethodName := ⟨RX8, "readOther", "(I)Z"⟩
abbrev cX8_readText : ByteArray := prog_10_method_11_code
def yX8_readText : MethodName := ⟨RX8, "readText", "()I"⟩
abbrev cX8_write : ByteArray := prog_10_method_12_code
def yX8_write : MethodName := ⟨RX8, "write", "(I)I"⟩
abbrev cX8_wipe : ByteArray := prog_10_method_13_code
def yX8_wipe : MethodName := ⟨RX8, "wipe", "()I"⟩
abbrev cX8_fault : ByteArray := prog_10_method_14_code
def yX8_fault : MethodName := ⟨RX8, "fault", "()I"⟩
abbrev cX8_lay : ByteArray := prog_10_method_15_code
def yX8_lay : MethodName := ⟨RX8, "lay", "()I"⟩
abbrev cX8_leastOf : ByteArray := prog_10_method_16_code
def yX8_leastOf : MethodName := ⟨RX8, "leastOf", "(I)I"⟩
abbrev cX8_mostOf : ByteArray := prog_10_method_17_code
def yX8_mostOf : MethodName := ⟨RX8, "mostOf", "(I)I"⟩
abbrev cX8_powerOf : ByteArray := prog_10_method_18_code
def yX8_powerOf : MethodName := ⟨RX8, "powerOf", "(III)I"⟩
abbrev cX8_lift : ByteArray := prog_10_method_19_code
def yX8_lift : MethodName := ⟨RX8, "lift", "()I"⟩
abbrev cX8_has : ByteArray := prog_10_method_20_code
def yX8_has : MethodName := ⟨RX8, "has", "(II)Z"⟩
abbrev cX8_sumOf : ByteArray := prog_10_method_21_code
def yX8_sumOf : MethodName := ⟨RX8, "sumOf", "(II)I"⟩
abbrev cX8_can : ByteArray := prog_10_method_22_code
def yX8_can : MethodName := ⟨RX8, "can", "(II)Z"⟩
abbrev cX8_lowest : ByteArray := prog_10_method_23_code
def yX8_lowest : MethodName := ⟨RX8, "lowest", "(I)I"⟩
abbrev cX8_leastBy : ByteArray := prog_10_method_24_code
def yX8_leastBy : MethodName := ⟨RX8, "leastBy", "(IIII)I"⟩
abbrev cX8_layTable : ByteArray := prog_10_method_25_code
def yX8_layTable : MethodName := ⟨RX8, "layTable", "()V"⟩
abbrev cX8_leastPower : ByteArray := prog_10_method_26_code
def yX8_leastPower : MethodName := ⟨RX8, "leastPower", "(II)I"⟩
abbrev cX8_layShare : ByteArray := prog_10_method_27_code
def yX8_layShare : MethodName := ⟨RX8, "layShare", "(II)V"⟩
abbrev cX8_lockedOnes : ByteArray := prog_10_method_28_code
def yX8_lockedOnes : MethodName := ⟨RX8, "lockedOnes", "()I"⟩
abbrev cX8_ones : ByteArray := prog_10_method_29_code
def yX8_ones : MethodName := ⟨RX8, "ones", "(I)I"⟩
abbrev cX8_findBest : ByteArray := prog_10_method_30_code
def yX8_findBest : MethodName := ⟨RX8, "findBest", "(I)I"⟩
abbrev cX8_own : ByteArray := prog_10_method_31_code
def yX8_own : MethodName := ⟨RX8, "own", "(II)I"⟩
abbrev cX8_standing : ByteArray := prog_10_method_32_code
def yX8_standing : MethodName := ⟨RX8, "standing", "(I)I"⟩
abbrev cX8_made : ByteArray := prog_10_method_33_code
def yX8_made : MethodName := ⟨RX8, "made", "()I"⟩
abbrev cX8_powerNow : ByteArray := prog_10_method_34_code
def yX8_powerNow : MethodName := ⟨RX8, "powerNow", "()I"⟩
abbrev cX8_isGapOver : ByteArray := prog_10_method_35_code
def yX8_isGapOver : MethodName := ⟨RX8, "isGapOver", "(I)Z"⟩
abbrev cX8_mayStart : ByteArray := prog_10_method_36_code
def yX8_mayStart : MethodName := ⟨RX8, "mayStart", "(II)Z"⟩
abbrev cX8_start : ByteArray := prog_10_method_37_code
def yX8_start : MethodName := ⟨RX8, "start", "(II)V"⟩
abbrev cX8_stop : ByteArray := prog_10_method_38_code
def yX8_stop : MethodName := ⟨RX8, "stop", "(II)V"⟩
abbrev cX8_starter : ByteArray := prog_10_method_39_code
def yX8_starter : MethodName := ⟨RX8, "starter", "(I)I"⟩
abbrev cX8_stopper : ByteArray := prog_10_method_40_code
def yX8_stopper : MethodName := ⟨RX8, "stopper", "(I)I"⟩
abbrev cX8_unlist : ByteArray := prog_10_method_41_code
def yX8_unlist : MethodName := ⟨RX8, "unlist", "(I)V"⟩
abbrev cX8_tickOnce : ByteArray := prog_10_method_42_code
def yX8_tickOnce : MethodName := ⟨RX8, "tickOnce", "()V"⟩
abbrev cX8_note : ByteArray := prog_10_method_43_code
def yX8_note : MethodName := ⟨RX8, "note", "()V"⟩
abbrev cX8_undo : ByteArray := prog_10_method_44_code
def yX8_undo : MethodName := ⟨RX8, "undo", "()I"⟩
abbrev cX8_tell : ByteArray := prog_10_method_45_code
def yX8_tell : MethodName := ⟨RX8, "tell", "(II)I"⟩
abbrev cX8_isMachine : ByteArray := prog_10_method_46_code
def yX8_isMachine : MethodName := ⟨RX8, "isMachine", "(I)Z"⟩
abbrev cX8_lock : ByteArray := prog_10_method_47_code
def yX8_lock : MethodName := ⟨RX8, "lock", "(II)I"⟩
abbrev cX8_dip : ByteArray := prog_10_method_48_code
def yX8_dip : MethodName := ⟨RX8, "dip", "()I"⟩
abbrev cX8_tick : ByteArray := prog_10_method_49_code
def yX8_tick : MethodName := ⟨RX8, "tick", "(I)I"⟩
abbrev cX8_placeInList : ByteArray := prog_10_method_50_code
def yX8_placeInList : MethodName := ⟨RX8, "placeInList", "(I)I"⟩
abbrev cX8_machine : ByteArray := prog_10_method_51_code
def yX8_machine : MethodName := ⟨RX8, "machine", "(II)I"⟩
abbrev cX8_power : ByteArray := prog_10_method_52_code
def yX8_power : MethodName := ⟨RX8, "power", "(III)I"⟩
abbrev cX8_share : ByteArray := prog_10_method_53_code
def yX8_share : MethodName := ⟨RX8, "share", "(III)I"⟩
abbrev cX8_best : ByteArray := prog_10_method_54_code
def yX8_best : MethodName := ⟨RX8, "best", "(II)I"⟩
abbrev cX8_more : ByteArray := prog_10_method_55_code
def yX8_more : MethodName := ⟨RX8, "more", "()I"⟩
abbrev cX8_now : ByteArray := prog_10_method_56_code
def yX8_now : MethodName := ⟨RX8, "now", "(I)I"⟩
abbrev cX8_ahead : ByteArray := prog_10_method_57_code
def yX8_ahead : MethodName := ⟨RX8, "ahead", "(II)I"⟩
abbrev cX8_count : ByteArray := prog_10_method_58_code
def yX8_count : MethodName := ⟨RX8, "count", "(I)I"⟩
abbrev cJ6_bitCount_0f7a4 : ByteArray := prog_11_method_49_code
def yJ6_bitCount_0f7a4 : MethodName := ⟨RJ6, "bitCount", "(I)I"⟩
abbrev cJ9_floorMod_7cf53 : ByteArray := prog_12_method_50_code
def yJ9_floorMod_7cf53 : MethodName := ⟨RJ9, "floorMod", "(II)I"⟩
abbrev cJ7_fill_53178 : ByteArray := prog_17_method_103_code
def yJ7_fill_53178 : MethodName := ⟨RJ7, "fill", "([II)V"⟩
abbrev cJ0_length_8abf5 : ByteArray := prog_13_method_54_code
def yJ0_length_8abf5 : MethodName := ⟨RJ0, "length", "()I"⟩
abbrev cJ0_charAt_5068e : ByteArray := prog_13_method_56_code
def yJ0_charAt_5068e : MethodName := ⟨RJ0, "charAt", "(I)C"⟩
abbrev cJ0_coder_7d493 : ByteArray := prog_13_method_152_code
def yJ0_coder_7d493 : MethodName := ⟨RJ0, "coder", "()B"⟩
abbrev cJ0_isLatin1_aae02 : ByteArray := prog_13_method_154_code
def yJ0_isLatin1_aae02 : MethodName := ⟨RJ0, "isLatin1", "()Z"⟩
abbrev cJ0_checkIndex_df160 : ByteArray := prog_13_method_155_code
def yJ0_checkIndex_df160 : MethodName := ⟨RJ0, "checkIndex", "(II)V"⟩
abbrev cJ1_charAt_3b067 : ByteArray := prog_14_method_2_code
def yJ1_charAt_3b067 : MethodName := ⟨RJ1, "charAt", "([BI)C"⟩
abbrev cJ3_checkIndex_8e157 : ByteArray := prog_18_method_11_code
def yJ3_checkIndex_8e157 : MethodName := ⟨RJ3, "checkIndex", "(IILjava/util/function/BiFunction;)I"⟩
abbrev classes : List vw_C := [(RX0, TX0, 6), (RX1, TX1, 3), (RX2, TX2, 14), (RX3, TX3, 3), (RX4, TX4, 9), (RX5, TX5, 2), (RX6, TX6, 15), (RX7, TX7, 8), (RX8, TX8, 15)]
/-- the words that stay true wherever a call leads -/
def gw : List Cond := lw_tbl.filter goodWord
theorem gw_of {w : Cond} {i : Nat} (h : lw_tbl[i]? = some w) (hg : goodWord w = true) : w ∈ gw := List.mem_filter.mpr ⟨List.mem_of_getElem? h, hg⟩
theorem gw_good {w : Cond} (h : w ∈ gw) : (w.onTables && w.keeps) = true ∨ ∃ ty, w = .arrayClass ty := good_of_word (List.mem_filter.mp h).2
theorem gw_tbl {w : Cond} (h : w ∈ gw) : w ∈ lw_tbl := (List.mem_filter.mp h).1
def isNest : Cond → Bool
  | .fieldLinkNest .. => true
  | .methodLinkNest .. => true
  | _ => false
def nw : List Cond := lw_tbl.filter isNest
theorem nw_of {w : Cond} {i : Nat} (h : lw_tbl[i]? = some w) (hg : isNest w = true) : w ∈ nw := List.mem_filter.mpr ⟨List.mem_of_getElem? h, hg⟩
theorem nw_tbl {w : Cond} (h : w ∈ nw) : w ∈ lw_tbl := (List.mem_filter.mp h).1
theorem ly_X0_0 : u_lay RX0 TX0 0 ∈ gw := gw_of (i := 347) (by decide +kernel) (by decide +kernel)
theorem ly_X0_1 : u_lay RX0 TX0 1 ∈ gw := gw_of (i := 349) (by decide +kernel) (by decide +kernel)
theorem ly_X0_2 : u_lay RX0 TX0 2 ∈ gw := gw_of (i := 351) (by decide +kernel) (by decide +kernel)
theorem ly_X0_3 : u_lay RX0 TX0 3 ∈ gw := gw_of (i := 353) (by decide +kernel) (by decide +kernel)
theorem ly_X0_4 : u_lay RX0 TX0 4 ∈ gw := gw_of (i := 355) (by decide +kernel) (by decide +kernel)
theorem ly_X0_5 : u_lay RX0 TX0 5 ∈ gw := gw_of (i := 357) (by decide +kernel) (by decide +kernel)
theorem in_X0 : ∀ w ∈ u_ws RX0 TX0 6, w ∈ gw := by
  intro w hw
  obtain ⟨k, hk, rfl⟩ := List.mem_map.mp hw
  have hk := List.mem_range.mp hk
  match k, hk with
  | 0, _ => exact ly_X0_0
  | 1, _ => exact ly_X0_1
  | 2, _ => exact ly_X0_2
  | 3, _ => exact ly_X0_3
  | 4, _ => exact ly_X0_4
  | 5, _ => exact ly_X0_5
  | k + 6, hk => exact absurd hk (by omega)
theorem ly_X1_0 : u_lay RX1 TX1 0 ∈ gw := gw_of (i := 277) (by decide +kernel) (by decide +kernel)
theorem ly_X1_1 : u_lay RX1 TX1 1 ∈ gw := gw_of (i := 279) (by decide +kernel) (by decide +kernel)
theorem ly_X1_2 : u_lay RX1 TX1 2 ∈ gw := gw_of (i := 281) (by decide +kernel) (by decide +kernel)
theorem in_X1 : ∀ w ∈ u_ws RX1 TX1 3, w ∈ gw := by
  intro w hw
  obtain ⟨k, hk, rfl⟩ := List.mem_map.mp hw
  have hk := List.mem_range.mp hk
  match k, hk with
  | 0, _ => exact ly_X1_0
  | 1, _ => exact ly_X1_1
  | 2, _ => exact ly_X1_2
  | k + 3, hk => exact absurd hk (by omega)
theorem ly_X2_0 : u_lay RX2 TX2 0 ∈ gw := gw_of (i := 148) (by decide +kernel) (by decide +kernel)
theorem ly_X2_1 : u_lay RX2 TX2 1 ∈ gw := gw_of (i := 150) (by decide +kernel) (by decide +kernel)
theorem ly_X2_2 : u_lay RX2 TX2 2 ∈ gw := gw_of (i := 152) (by decide +kernel) (by decide +kernel)
theorem ly_X2_3 : u_lay RX2 TX2 3 ∈ gw := gw_of (i := 154) (by decide +kernel) (by decide +kernel)
theorem ly_X2_4 : u_lay RX2 TX2 4 ∈ gw := gw_of (i := 156) (by decide +kernel) (by decide +kernel)
theorem ly_X2_5 : u_lay RX2 TX2 5 ∈ gw := gw_of (i := 158) (by decide +kernel) (by decide +kernel)
theorem ly_X2_6 : u_lay RX2 TX2 6 ∈ gw := gw_of (i := 160) (by decide +kernel) (by decide +kernel)
theorem ly_X2_7 : u_lay RX2 TX2 7 ∈ gw := gw_of (i := 162) (by decide +kernel) (by decide +kernel)
theorem ly_X2_8 : u_lay RX2 TX2 8 ∈ gw := gw_of (i := 164) (by decide +kernel) (by decide +kernel)
theorem ly_X2_9 : u_lay RX2 TX2 9 ∈ gw := gw_of (i := 166) (by decide +kernel) (by decide +kernel)
theorem ly_X2_10 : u_lay RX2 TX2 10 ∈ gw := gw_of (i := 168) (by decide +kernel) (by decide +kernel)
theorem ly_X2_11 : u_lay RX2 TX2 11 ∈ gw := gw_of (i := 170) (by decide +kernel) (by decide +kernel)
theorem ly_X2_12 : u_lay RX2 TX2 12 ∈ gw := gw_of (i := 172) (by decide +kernel) (by decide +kernel)
theorem ly_X2_13 : u_lay RX2 TX2 13 ∈ gw := gw_of (i := 174) (by decide +kernel) (by decide +kernel)
theorem in_X2 : ∀ w ∈ u_ws RX2 TX2 14, w ∈ gw := by
  intro w hw
  obtain ⟨k, hk, rfl⟩ := List.mem_map.mp hw
  have hk := List.mem_range.mp hk
  match k, hk with
  | 0, _ => exact ly_X2_0
  | 1, _ => exact ly_X2_1
  | 2, _ => exact ly_X2_2
  | 3, _ => exact ly_X2_3
  | 4, _ => exact ly_X2_4
  | 5, _ => exact ly_X2_5
  | 6, _ => exact ly_X2_6
  | 7, _ => exact ly_X2_7
  | 8, _ => exact ly_X2_8
  | 9, _ => exact ly_X2_9
  | 10, _ => exact ly_X2_10
  | 11, _ => exact ly_X2_11
  | 12, _ => exact ly_X2_12
  | 13, _ => exact ly_X2_13
  | k + 14, hk => exact absurd hk (by omega)
theorem ly_X3_0 : u_lay RX3 TX3 0 ∈ gw := gw_of (i := 97) (by decide +kernel) (by decide +kernel)
theorem ly_X3_1 : u_lay RX3 TX3 1 ∈ gw := gw_of (i := 99) (by decide +kernel) (by decide +kernel)
theorem ly_X3_2 : u_lay RX3 TX3 2 ∈ gw := gw_of (i := 101) (by decide +kernel) (by decide +kernel)
theorem in_X3 : ∀ w ∈ u_ws RX3 TX3 3, w ∈ gw := by
  intro w hw
  obtain ⟨k, hk, rfl⟩ := List.mem_map.mp hw
  have hk := List.mem_range.mp hk
  match k, hk with
  | 0, _ => exact ly_X3_0
  | 1, _ => exact ly_X3_1
  | 2, _ => exact ly_X3_2
  | k + 3, hk => exact absurd hk (by omega)
theorem ly_X4_0 : u_lay RX4 TX4 0 ∈ gw := gw_of (i := 305) (by decide +kernel) (by decide +kernel)
theorem ly_X4_1 : u_lay RX4 TX4 1 ∈ gw := gw_of (i := 307) (by decide +kernel) (by decide +kernel)
theorem ly_X4_2 : u_lay RX4 TX4 2 ∈ gw := gw_of (i := 309) (by decide +kernel) (by decide +kernel)
theorem ly_X4_3 : u_lay RX4 TX4 3 ∈ gw := gw_of (i := 311) (by decide +kernel) (by decide +kernel)
theorem ly_X4_4 : u_lay RX4 TX4 4 ∈ gw := gw_of (i := 313) (by decide +kernel) (by decide +kernel)
theorem ly_X4_5 : u_lay RX4 TX4 5 ∈ gw := gw_of (i := 315) (by decide +kernel) (by decide +kernel)
theorem ly_X4_6 : u_lay RX4 TX4 6 ∈ gw := gw_of (i := 317) (by decide +kernel) (by decide +kernel)
theorem ly_X4_7 : u_lay RX4 TX4 7 ∈ gw := gw_of (i := 319) (by decide +kernel) (by decide +kernel)
theorem ly_X4_8 : u_lay RX4 TX4 8 ∈ gw := gw_of (i := 321) (by decide +kernel) (by decide +kernel)
theorem in_X4 : ∀ w ∈ u_ws RX4 TX4 9, w ∈ gw := by
  intro w hw
  obtain ⟨k, hk, rfl⟩ := List.mem_map.mp hw
  have hk := List.mem_range.mp hk
  match k, hk with
  | 0, _ => exact ly_X4_0
  | 1, _ => exact ly_X4_1
  | 2, _ => exact ly_X4_2
  | 3, _ => exact ly_X4_3
  | 4, _ => exact ly_X4_4
  | 5, _ => exact ly_X4_5
  | 6, _ => exact ly_X4_6
  | 7, _ => exact ly_X4_7
  | 8, _ => exact ly_X4_8
  | k + 9, hk => exact absurd hk (by omega)
theorem ly_X5_0 : u_lay RX5 TX5 0 ∈ gw := gw_of (i := 328) (by decide +kernel) (by decide +kernel)
theorem ly_X5_1 : u_lay RX5 TX5 1 ∈ gw := gw_of (i := 330) (by decide +kernel) (by decide +kernel)
theorem in_X5 : ∀ w ∈ u_ws RX5 TX5 2, w ∈ gw := by
  intro w hw
  obtain ⟨k, hk, rfl⟩ := List.mem_map.mp hw
  have hk := List.mem_range.mp hk
  match k, hk with
  | 0, _ => exact ly_X5_0
  | 1, _ => exact ly_X5_1
  | k + 2, hk => exact absurd hk (by omega)
theorem ly_X6_0 : u_lay RX6 TX6 0 ∈ gw := gw_of (i := 233) (by decide +kernel) (by decide +kernel)
theorem ly_X6_1 : u_lay RX6 TX6 1 ∈ gw := gw_of (i := 235) (by decide +kernel) (by decide +kernel)
theorem ly_X6_2 : u_lay RX6 TX6 2 ∈ gw := gw_of (i := 237) (by decide +kernel) (by decide +kernel)
theorem ly_X6_3 : u_lay RX6 TX6 3 ∈ gw := gw_of (i := 239) (by decide +kernel) (by decide +kernel)
theorem ly_X6_4 : u_lay RX6 TX6 4 ∈ gw := gw_of (i := 241) (by decide +kernel) (by decide +kernel)
theorem ly_X6_5 : u_lay RX6 TX6 5 ∈ gw := gw_of (i := 243) (by decide +kernel) (by decide +kernel)
theorem ly_X6_6 : u_lay RX6 TX6 6 ∈ gw := gw_of (i := 245) (by decide +kernel) (by decide +kernel)
theorem ly_X6_7 : u_lay RX6 TX6 7 ∈ gw := gw_of (i := 247) (by decide +kernel) (by decide +kernel)
theorem ly_X6_8 : u_lay RX6 TX6 8 ∈ gw := gw_of (i := 249) (by decide +kernel) (by decide +kernel)
theorem ly_X6_9 : u_lay RX6 TX6 9 ∈ gw := gw_of (i := 251) (by decide +kernel) (by decide +kernel)
theorem ly_X6_10 : u_lay RX6 TX6 10 ∈ gw := gw_of (i := 253) (by decide +kernel) (by decide +kernel)
theorem ly_X6_11 : u_lay RX6 TX6 11 ∈ gw := gw_of (i := 255) (by decide +kernel) (by decide +kernel)
theorem ly_X6_12 : u_lay RX6 TX6 12 ∈ gw := gw_of (i := 257) (by decide +kernel) (by decide +kernel)
theorem ly_X6_13 : u_lay RX6 TX6 13 ∈ gw := gw_of (i := 259) (by decide +kernel) (by decide +kernel)
theorem ly_X6_14 : u_lay RX6 TX6 14 ∈ gw := gw_of (i := 261) (by decide +kernel) (by decide +kernel)
theorem in_X6 : ∀ w ∈ u_ws RX6 TX6 15, w ∈ gw := by
  intro w hw
  obtain ⟨k, hk, rfl⟩ := List.mem_map.mp hw
  have hk := List.mem_range.mp hk
  match k, hk with
  | 0, _ => exact ly_X6_0
  | 1, _ => exact ly_X6_1
  | 2, _ => exact ly_X6_2
  | 3, _ => exact ly_X6_3
  | 4, _ => exact ly_X6_4
  | 5, _ => exact ly_X6_5
  | 6, _ => exact ly_X6_6
  | 7, _ => exact ly_X6_7
  | 8, _ => exact ly_X6_8
  | 9, _ => exact ly_X6_9
  | 10, _ => exact ly_X6_10
  | 11, _ => exact ly_X6_11
  | 12, _ => exact ly_X6_12
  | 13, _ => exact ly_X6_13
  | 14, _ => exact ly_X6_14
  | k + 15, hk => exact absurd hk (by omega)
theorem ly_X7_0 : u_lay RX7 TX7 0 ∈ gw := gw_of (i := 471) (by decide +kernel) (by decide +kernel)
theorem ly_X7_1 : u_lay RX7 TX7 1 ∈ gw := gw_of (i := 473) (by decide +kernel) (by decide +kernel)
theorem ly_X7_2 : u_lay RX7 TX7 2 ∈ gw := gw_of (i := 475) (by decide +kernel) (by decide +kernel)
theorem ly_X7_3 : u_lay RX7 TX7 3 ∈ gw := gw_of (i := 477) (by decide +kernel) (by decide +kernel)
theorem ly_X7_4 : u_lay RX7 TX7 4 ∈ gw := gw_of (i := 479) (by decide +kernel) (by decide +kernel)
theorem ly_X7_5 : u_lay RX7 TX7 5 ∈ gw := gw_of (i := 481) (by decide +kernel) (by decide +kernel)
theorem ly_X7_6 : u_lay RX7 TX7 6 ∈ gw := gw_of (i := 483) (by decide +kernel) (by decide +kernel)
theorem ly_X7_7 : u_lay RX7 TX7 7 ∈ gw := gw_of (i := 485) (by decide +kernel) (by decide +kernel)
theorem in_X7 : ∀ w ∈ u_ws RX7 TX7 8, w ∈ gw := by
  intro w hw
  obtain ⟨k, hk, rfl⟩ := List.mem_map.mp hw
  have hk := List.mem_range.mp hk
  match k, hk with
  | 0, _ => exact ly_X7_0
  | 1, _ => exact ly_X7_1
  | 2, _ => exact ly_X7_2
  | 3, _ => exact ly_X7_3
  | 4, _ => exact ly_X7_4
  | 5, _ => exact ly_X7_5
  | 6, _ => exact ly_X7_6
  | 7, _ => exact ly_X7_7
  | k + 8, hk => exact absurd hk (by omega)
theorem ly_X8_0 : u_lay RX8 TX8 0 ∈ gw := gw_of (i := 873) (by decide +kernel) (by decide +kernel)
theorem ly_X8_1 : u_lay RX8 TX8 1 ∈ gw := gw_of (i := 875) (by decide +kernel) (by decide +kernel)
theorem ly_X8_2 : u_lay RX8 TX8 2 ∈ gw := gw_of (i := 877) (by decide +kernel) (by decide +kernel)
theorem ly_X8_3 : u_lay RX8 TX8 3 ∈ gw := gw_of (i := 879) (by decide +kernel) (by decide +kernel)
theorem ly_X8_4 : u_lay RX8 TX8 4 ∈ gw := gw_of (i := 881) (by decide +kernel) (by decide +kernel)
theorem ly_X8_5 : u_lay RX8 TX8 5 ∈ gw := gw_of (i := 883) (by decide +kernel) (by decide +kernel)
theorem ly_X8_6 : u_lay RX8 TX8 6 ∈ gw := gw_of (i := 885) (by decide +kernel) (by decide +kernel)
theorem ly_X8_7 : u_lay RX8 TX8 7 ∈ gw := gw_of (i := 887) (by decide +kernel) (by decide +kernel)
theorem ly_X8_8 : u_lay RX8 TX8 8 ∈ gw := gw_of (i := 889) (by decide +kernel) (by decide +kernel)
theorem ly_X8_9 : u_lay RX8 TX8 9 ∈ gw := gw_of (i := 891) (by decide +kernel) (by decide +kernel)
theorem ly_X8_10 : u_lay RX8 TX8 10 ∈ gw := gw_of (i := 893) (by decide +kernel) (by decide +kernel)
theorem ly_X8_11 : u_lay RX8 TX8 11 ∈ gw := gw_of (i := 895) (by decide +kernel) (by decide +kernel)
theorem ly_X8_12 : u_lay RX8 TX8 12 ∈ gw := gw_of (i := 897) (by decide +kernel) (by decide +kernel)
theorem ly_X8_13 : u_lay RX8 TX8 13 ∈ gw := gw_of (i := 899) (by decide +kernel) (by decide +kernel)
theorem ly_X8_14 : u_lay RX8 TX8 14 ∈ gw := gw_of (i := 901) (by decide +kernel) (by decide +kernel)
theorem in_X8 : ∀ w ∈ u_ws RX8 TX8 15, w ∈ gw := by
  intro w hw
  obtain ⟨k, hk, rfl⟩ := List.mem_map.mp hw
  have hk := List.mem_range.mp hk
  match k, hk with
  | 0, _ => exact ly_X8_0
  | 1, _ => exact ly_X8_1
  | 2, _ => exact ly_X8_2
  | 3, _ => exact ly_X8_3
  | 4, _ => exact ly_X8_4
  | 5, _ => exact ly_X8_5
  | 6, _ => exact ly_X8_6
  | 7, _ => exact ly_X8_7
  | 8, _ => exact ly_X8_8
  | 9, _ => exact ly_X8_9
  | 10, _ => exact ly_X8_10
  | 11, _ => exact ly_X8_11
  | 12, _ => exact ly_X8_12
  | 13, _ => exact ly_X8_13
  | 14, _ => exact ly_X8_14
  | k + 15, hk => exact absurd hk (by omega)
theorem fl_X7_10 : Cond.fieldLink RX7 10 "ColdHouse" "script" "LColdHouse$Script;" ∈ gw := gw_of (i := 463) (by decide +kernel) (by decide +kernel)
theorem fl_X7_19 : Cond.fieldLink RX7 19 "ColdHouse" "plant" "LColdHouse$Plant;" ∈ gw := gw_of (i := 464) (by decide +kernel) (by decide +kernel)
theorem fl_X7_26 : Cond.fieldLink RX7 26 "ColdHouse" "state" "LColdHouse$State;" ∈ gw := gw_of (i := 465) (by decide +kernel) (by decide +kernel)
theorem fl_X7_30 : Cond.fieldLink RX7 30 "ColdHouse" "trial" "LColdHouse$State;" ∈ gw := gw_of (i := 466) (by decide +kernel) (by decide +kernel)
theorem fl_X7_36 : Cond.fieldLink RX7 36 "ColdHouse" "past" "LColdHouse$Past;" ∈ gw := gw_of (i := 467) (by decide +kernel) (by decide +kernel)
theorem fl_X7_45 : Cond.fieldLink RX7 45 "ColdHouse" "staging" "LColdHouse$Staging;" ∈ gw := gw_of (i := 468) (by decide +kernel) (by decide +kernel)
theorem fl_X7_52 : Cond.fieldLink RX7 52 "ColdHouse" "asked" "LColdHouse$Sharing;" ∈ gw := gw_of (i := 469) (by decide +kernel) (by decide +kernel)
theorem fl_X7_59 : Cond.fieldLink RX7 59 "ColdHouse" "bestSets" "LColdHouse$BestSets;" ∈ gw := gw_of (i := 470) (by decide +kernel) (by decide +kernel)
theorem fl_X7_85 : Cond.fieldLink RX7 85 "ColdHouse$Script" "length" "I" ∈ gw := gw_of (i := 94) (by decide +kernel) (by decide +kernel)
theorem fl_X7_100 : Cond.fieldLink RX7 100 "ColdHouse$Staging" "sharing" "LColdHouse$Sharing;" ∈ gw := gw_of (i := 326) (by decide +kernel) (by decide +kernel)
theorem fl_X7_105 : Cond.fieldLink RX7 105 "ColdHouse$Plant" "machines" "I" ∈ gw := gw_of (i := 116) (by decide +kernel) (by decide +kernel)
theorem fl_X7_107 : Cond.fieldLink RX7 107 "ColdHouse" "TOLD_LEAST" "[I" ∈ gw := gw_of (i := 530) (by decide +kernel) (by decide +kernel)
theorem fl_X7_111 : Cond.fieldLink RX7 111 "ColdHouse" "TOLD_MOST" "[I" ∈ gw := gw_of (i := 532) (by decide +kernel) (by decide +kernel)
theorem fl_X7_114 : Cond.fieldLink RX7 114 "ColdHouse$State" "told" "[I" ∈ gw := gw_of (i := 198) (by decide +kernel) (by decide +kernel)
theorem fl_X7_125 : Cond.fieldLink RX7 125 "ColdHouse$State" "locked" "I" ∈ gw := gw_of (i := 212) (by decide +kernel) (by decide +kernel)
theorem fl_X7_147 : Cond.fieldLink RX7 147 "ColdHouse$State" "ticks" "I" ∈ gw := gw_of (i := 201) (by decide +kernel) (by decide +kernel)
theorem fl_X7_160 : Cond.fieldLink RX7 160 "ColdHouse$Past" "held" "I" ∈ gw := gw_of (i := 274) (by decide +kernel) (by decide +kernel)
theorem fl_X7_163 : Cond.fieldLink RX7 163 "ColdHouse$Plant" "least" "[I" ∈ gw := gw_of (i := 120) (by decide +kernel) (by decide +kernel)
theorem fl_X7_166 : Cond.fieldLink RX7 166 "ColdHouse$Plant" "most" "[I" ∈ gw := gw_of (i := 124) (by decide +kernel) (by decide +kernel)
theorem fl_X7_169 : Cond.fieldLink RX7 169 "ColdHouse$Plant" "base" "[I" ∈ gw := gw_of (i := 127) (by decide +kernel) (by decide +kernel)
theorem fl_X7_172 : Cond.fieldLink RX7 172 "ColdHouse$Plant" "slope" "[I" ∈ gw := gw_of (i := 129) (by decide +kernel) (by decide +kernel)
theorem fl_X7_175 : Cond.fieldLink RX7 175 "ColdHouse$Plant" "curve" "[I" ∈ gw := gw_of (i := 131) (by decide +kernel) (by decide +kernel)
theorem fl_X7_178 : Cond.fieldLink RX7 178 "ColdHouse$Plant" "flow" "[I" ∈ gw := gw_of (i := 133) (by decide +kernel) (by decide +kernel)
theorem fl_X7_181 : Cond.fieldLink RX7 181 "ColdHouse$State" "starting" "I" ∈ gw := gw_of (i := 216) (by decide +kernel) (by decide +kernel)
theorem fl_X7_188 : Cond.fieldLink RX7 188 "ColdHouse$State" "on" "I" ∈ gw := gw_of (i := 219) (by decide +kernel) (by decide +kernel)
theorem fl_X7_191 : Cond.fieldLink RX7 191 "ColdHouse$State" "hours" "[I" ∈ gw := gw_of (i := 228) (by decide +kernel) (by decide +kernel)
theorem fl_X7_194 : Cond.fieldLink RX7 194 "ColdHouse$State" "starts" "[I" ∈ gw := gw_of (i := 230) (by decide +kernel) (by decide +kernel)
theorem fl_X7_264 : Cond.fieldLink RX7 264 "ColdHouse$State" "energy" "I" ∈ gw := gw_of (i := 210) (by decide +kernel) (by decide +kernel)
theorem fl_X7_267 : Cond.fieldLink RX7 267 "ColdHouse$State" "listed" "I" ∈ gw := gw_of (i := 224) (by decide +kernel) (by decide +kernel)
theorem fl_X7_270 : Cond.fieldLink RX7 270 "ColdHouse$State" "ups" "I" ∈ gw := gw_of (i := 204) (by decide +kernel) (by decide +kernel)
theorem fl_X7_273 : Cond.fieldLink RX7 273 "ColdHouse$State" "downs" "I" ∈ gw := gw_of (i := 207) (by decide +kernel) (by decide +kernel)
theorem fl_X0_11 : Cond.fieldLink RX0 11 "ColdHouse$BestSets" "leastFor" "[I" ∈ gw := gw_of (i := 342) (by decide +kernel) (by decide +kernel)
theorem fl_X0_15 : Cond.fieldLink RX0 15 "ColdHouse$BestSets" "row" "[I" ∈ gw := gw_of (i := 343) (by decide +kernel) (by decide +kernel)
theorem fl_X0_18 : Cond.fieldLink RX0 18 "ColdHouse$BestSets" "plant" "LColdHouse$Plant;" ∈ gw := gw_of (i := 341) (by decide +kernel) (by decide +kernel)
theorem fl_X0_22 : Cond.fieldLink RX0 22 "ColdHouse$BestSets" "known" "Z" ∈ gw := gw_of (i := 344) (by decide +kernel) (by decide +kernel)
theorem fl_X0_26 : Cond.fieldLink RX0 26 "ColdHouse$BestSets" "open" "I" ∈ gw := gw_of (i := 345) (by decide +kernel) (by decide +kernel)
theorem fl_X0_30 : Cond.fieldLink RX0 30 "ColdHouse$BestSets" "lift" "I" ∈ gw := gw_of (i := 346) (by decide +kernel) (by decide +kernel)
theorem fl_X0_40 : Cond.fieldLink RX0 40 "ColdHouse$Plant" "machines" "I" ∈ gw := gw_of (i := 113) (by decide +kernel) (by decide +kernel)
theorem fl_X0_65 : Cond.fieldLink RX0 65 "ColdHouse$Plant" "least" "[I" ∈ gw := gw_of (i := 119) (by decide +kernel) (by decide +kernel)
theorem fl_X0_71 : Cond.fieldLink RX0 71 "ColdHouse$Plant" "most" "[I" ∈ gw := gw_of (i := 123) (by decide +kernel) (by decide +kernel)
theorem fl_X1_11 : Cond.fieldLink RX1 11 "ColdHouse$Past" "states" "[LColdHouse$State;" ∈ gw := gw_of (i := 276) (by decide +kernel) (by decide +kernel)
theorem fl_X1_18 : Cond.fieldLink RX1 18 "ColdHouse$Past" "held" "I" ∈ gw := gw_of (i := 273) (by decide +kernel) (by decide +kernel)
theorem fl_X1_22 : Cond.fieldLink RX1 22 "ColdHouse$Past" "next" "I" ∈ gw := gw_of (i := 275) (by decide +kernel) (by decide +kernel)
theorem fl_X2_9 : Cond.fieldLink RX2 9 "ColdHouse$Plant" "least" "[I" ∈ gw := gw_of (i := 117) (by decide +kernel) (by decide +kernel)
theorem fl_X2_15 : Cond.fieldLink RX2 15 "ColdHouse$Plant" "most" "[I" ∈ gw := gw_of (i := 121) (by decide +kernel) (by decide +kernel)
theorem fl_X2_18 : Cond.fieldLink RX2 18 "ColdHouse$Plant" "base" "[I" ∈ gw := gw_of (i := 126) (by decide +kernel) (by decide +kernel)
theorem fl_X2_21 : Cond.fieldLink RX2 21 "ColdHouse$Plant" "slope" "[I" ∈ gw := gw_of (i := 128) (by decide +kernel) (by decide +kernel)
theorem fl_X2_24 : Cond.fieldLink RX2 24 "ColdHouse$Plant" "curve" "[I" ∈ gw := gw_of (i := 130) (by decide +kernel) (by decide +kernel)
theorem fl_X2_27 : Cond.fieldLink RX2 27 "ColdHouse$Plant" "flow" "[I" ∈ gw := gw_of (i := 132) (by decide +kernel) (by decide +kernel)
theorem fl_X2_30 : Cond.fieldLink RX2 30 "ColdHouse$Plant" "machines" "I" ∈ gw := gw_of (i := 112) (by decide +kernel) (by decide +kernel)
theorem fl_X2_34 : Cond.fieldLink RX2 34 "ColdHouse$Plant" "run" "I" ∈ gw := gw_of (i := 134) (by decide +kernel) (by decide +kernel)
theorem fl_X2_37 : Cond.fieldLink RX2 37 "ColdHouse$Plant" "rest" "I" ∈ gw := gw_of (i := 136) (by decide +kernel) (by decide +kernel)
theorem fl_X2_40 : Cond.fieldLink RX2 40 "ColdHouse$Plant" "startsAllowed" "I" ∈ gw := gw_of (i := 138) (by decide +kernel) (by decide +kernel)
theorem fl_X2_43 : Cond.fieldLink RX2 43 "ColdHouse$Plant" "gap" "I" ∈ gw := gw_of (i := 140) (by decide +kernel) (by decide +kernel)
theorem fl_X2_46 : Cond.fieldLink RX2 46 "ColdHouse$Plant" "up" "I" ∈ gw := gw_of (i := 142) (by decide +kernel) (by decide +kernel)
theorem fl_X2_49 : Cond.fieldLink RX2 49 "ColdHouse$Plant" "down" "I" ∈ gw := gw_of (i := 144) (by decide +kernel) (by decide +kernel)
theorem fl_X2_52 : Cond.fieldLink RX2 52 "ColdHouse$Plant" "patience" "I" ∈ gw := gw_of (i := 146) (by decide +kernel) (by decide +kernel)
theorem fn_X2_55 : Cond.fieldLinkNest RX2 55 "ColdHouse" "MACHINE_MOST" "[I" "ColdHouse" ∈ nw := nw_of (i := 454) (by decide +kernel) (by decide +kernel)
theorem fl_X3_9 : Cond.fieldLink RX3 9 "ColdHouse$Script" "letters" "[C" ∈ gw := gw_of (i := 95) (by decide +kernel) (by decide +kernel)
theorem fn_X3_15 : Cond.fieldLinkNest RX3 15 "ColdHouse" "MACHINE_MOST" "[I" "ColdHouse" ∈ nw := nw_of (i := 91) (by decide +kernel) (by decide +kernel)
theorem fl_X3_19 : Cond.fieldLink RX3 19 "ColdHouse$Script" "numbers" "[I" ∈ gw := gw_of (i := 96) (by decide +kernel) (by decide +kernel)
theorem fl_X3_22 : Cond.fieldLink RX3 22 "ColdHouse$Script" "length" "I" ∈ gw := gw_of (i := 93) (by decide +kernel) (by decide +kernel)
theorem fn_X3_43 : Cond.fieldLinkNest RX3 43 "ColdHouse" "MACHINE_LEAST" "[I" "ColdHouse" ∈ nw := nw_of (i := 429) (by decide +kernel) (by decide +kernel)
theorem fn_X3_50 : Cond.fieldLinkNest RX3 50 "ColdHouse" "RUN_LEAST" "[I" "ColdHouse" ∈ nw := nw_of (i := 442) (by decide +kernel) (by decide +kernel)
theorem fn_X3_53 : Cond.fieldLinkNest RX3 53 "ColdHouse" "RUN_MOST" "[I" "ColdHouse" ∈ nw := nw_of (i := 444) (by decide +kernel) (by decide +kernel)
theorem fn_X3_56 : Cond.fieldLinkNest RX3 56 "ColdHouse" "STAGE_LEAST" "[I" "ColdHouse" ∈ nw := nw_of (i := 446) (by decide +kernel) (by decide +kernel)
theorem fn_X3_59 : Cond.fieldLinkNest RX3 59 "ColdHouse" "STAGE_MOST" "[I" "ColdHouse" ∈ nw := nw_of (i := 448) (by decide +kernel) (by decide +kernel)
theorem fl_X4_11 : Cond.fieldLink RX4 11 "ColdHouse$Sharing" "leastFor" "[J" ∈ gw := gw_of (i := 297) (by decide +kernel) (by decide +kernel)
theorem fl_X4_15 : Cond.fieldLink RX4 15 "ColdHouse$Sharing" "row" "[J" ∈ gw := gw_of (i := 298) (by decide +kernel) (by decide +kernel)
theorem fl_X4_18 : Cond.fieldLink RX4 18 "ColdHouse$Sharing" "plant" "LColdHouse$Plant;" ∈ gw := gw_of (i := 296) (by decide +kernel) (by decide +kernel)
theorem fl_X4_22 : Cond.fieldLink RX4 22 "ColdHouse$Sharing" "known" "Z" ∈ gw := gw_of (i := 299) (by decide +kernel) (by decide +kernel)
theorem fl_X4_26 : Cond.fieldLink RX4 26 "ColdHouse$Sharing" "set" "I" ∈ gw := gw_of (i := 300) (by decide +kernel) (by decide +kernel)
theorem fl_X4_30 : Cond.fieldLink RX4 30 "ColdHouse$Sharing" "load" "I" ∈ gw := gw_of (i := 301) (by decide +kernel) (by decide +kernel)
theorem fl_X4_33 : Cond.fieldLink RX4 33 "ColdHouse$Sharing" "lift" "I" ∈ gw := gw_of (i := 302) (by decide +kernel) (by decide +kernel)
theorem fl_X4_42 : Cond.fieldLink RX4 42 "ColdHouse$Sharing" "low" "I" ∈ gw := gw_of (i := 303) (by decide +kernel) (by decide +kernel)
theorem fl_X4_45 : Cond.fieldLink RX4 45 "ColdHouse$Sharing" "high" "I" ∈ gw := gw_of (i := 304) (by decide +kernel) (by decide +kernel)
theorem fl_X4_48 : Cond.fieldLink RX4 48 "ColdHouse$Plant" "machines" "I" ∈ gw := gw_of (i := 114) (by decide +kernel) (by decide +kernel)
theorem fl_X4_67 : Cond.fieldLink RX4 67 "ColdHouse$Plant" "least" "[I" ∈ gw := gw_of (i := 118) (by decide +kernel) (by decide +kernel)
theorem fl_X4_79 : Cond.fieldLink RX4 79 "ColdHouse$Plant" "most" "[I" ∈ gw := gw_of (i := 122) (by decide +kernel) (by decide +kernel)
theorem fl_X5_9 : Cond.fieldLink RX5 9 "ColdHouse$Staging" "plant" "LColdHouse$Plant;" ∈ gw := gw_of (i := 327) (by decide +kernel) (by decide +kernel)
theorem fl_X5_20 : Cond.fieldLink RX5 20 "ColdHouse$Staging" "sharing" "LColdHouse$Sharing;" ∈ gw := gw_of (i := 325) (by decide +kernel) (by decide +kernel)
theorem fl_X5_24 : Cond.fieldLink RX5 24 "ColdHouse$State" "on" "I" ∈ gw := gw_of (i := 217) (by decide +kernel) (by decide +kernel)
theorem fl_X5_39 : Cond.fieldLink RX5 39 "ColdHouse$State" "told" "[I" ∈ gw := gw_of (i := 197) (by decide +kernel) (by decide +kernel)
theorem fl_X5_70 : Cond.fieldLink RX5 70 "ColdHouse$State" "energy" "I" ∈ gw := gw_of (i := 209) (by decide +kernel) (by decide +kernel)
theorem fl_X5_76 : Cond.fieldLink RX5 76 "ColdHouse$State" "ticks" "I" ∈ gw := gw_of (i := 200) (by decide +kernel) (by decide +kernel)
theorem fl_X5_79 : Cond.fieldLink RX5 79 "ColdHouse$Plant" "machines" "I" ∈ gw := gw_of (i := 115) (by decide +kernel) (by decide +kernel)
theorem fl_X5_82 : Cond.fieldLink RX5 82 "ColdHouse$State" "hours" "[I" ∈ gw := gw_of (i := 227) (by decide +kernel) (by decide +kernel)
theorem fl_X5_95 : Cond.fieldLink RX5 95 "ColdHouse$State" "listed" "I" ∈ gw := gw_of (i := 223) (by decide +kernel) (by decide +kernel)
theorem fl_X5_102 : Cond.fieldLink RX5 102 "ColdHouse$Plant" "up" "I" ∈ gw := gw_of (i := 143) (by decide +kernel) (by decide +kernel)
theorem fl_X5_111 : Cond.fieldLink RX5 111 "ColdHouse$State" "starting" "I" ∈ gw := gw_of (i := 215) (by decide +kernel) (by decide +kernel)
theorem fl_X5_131 : Cond.fieldLink RX5 131 "ColdHouse$State" "ups" "I" ∈ gw := gw_of (i := 203) (by decide +kernel) (by decide +kernel)
theorem fl_X5_134 : Cond.fieldLink RX5 134 "ColdHouse$State" "downs" "I" ∈ gw := gw_of (i := 206) (by decide +kernel) (by decide +kernel)
theorem fl_X5_137 : Cond.fieldLink RX5 137 "ColdHouse$Plant" "patience" "I" ∈ gw := gw_of (i := 147) (by decide +kernel) (by decide +kernel)
theorem fl_X5_146 : Cond.fieldLink RX5 146 "ColdHouse$Plant" "down" "I" ∈ gw := gw_of (i := 145) (by decide +kernel) (by decide +kernel)
theorem fl_X5_152 : Cond.fieldLink RX5 152 "ColdHouse$State" "lastStart" "I" ∈ gw := gw_of (i := 221) (by decide +kernel) (by decide +kernel)
theorem fl_X5_155 : Cond.fieldLink RX5 155 "ColdHouse$Plant" "gap" "I" ∈ gw := gw_of (i := 141) (by decide +kernel) (by decide +kernel)
theorem fl_X5_158 : Cond.fieldLink RX5 158 "ColdHouse$State" "locked" "I" ∈ gw := gw_of (i := 213) (by decide +kernel) (by decide +kernel)
theorem fl_X5_164 : Cond.fieldLink RX5 164 "ColdHouse$Plant" "rest" "I" ∈ gw := gw_of (i := 137) (by decide +kernel) (by decide +kernel)
theorem fl_X5_167 : Cond.fieldLink RX5 167 "ColdHouse$Plant" "startsAllowed" "I" ∈ gw := gw_of (i := 139) (by decide +kernel) (by decide +kernel)
theorem fl_X5_177 : Cond.fieldLink RX5 177 "ColdHouse$Plant" "run" "I" ∈ gw := gw_of (i := 135) (by decide +kernel) (by decide +kernel)
theorem fl_X5_186 : Cond.fieldLink RX5 186 "ColdHouse$Plant" "most" "[I" ∈ gw := gw_of (i := 125) (by decide +kernel) (by decide +kernel)
theorem fl_X6_9 : Cond.fieldLink RX6 9 "ColdHouse$State" "told" "[I" ∈ gw := gw_of (i := 196) (by decide +kernel) (by decide +kernel)
theorem fl_X6_15 : Cond.fieldLink RX6 15 "ColdHouse$State" "list" "[I" ∈ gw := gw_of (i := 225) (by decide +kernel) (by decide +kernel)
theorem fl_X6_18 : Cond.fieldLink RX6 18 "ColdHouse$State" "hours" "[I" ∈ gw := gw_of (i := 226) (by decide +kernel) (by decide +kernel)
theorem fl_X6_21 : Cond.fieldLink RX6 21 "ColdHouse$State" "starts" "[I" ∈ gw := gw_of (i := 229) (by decide +kernel) (by decide +kernel)
theorem fl_X6_24 : Cond.fieldLink RX6 24 "ColdHouse$State" "startTicks" "[I" ∈ gw := gw_of (i := 231) (by decide +kernel) (by decide +kernel)
theorem fl_X6_27 : Cond.fieldLink RX6 27 "ColdHouse$State" "stopTick" "[I" ∈ gw := gw_of (i := 232) (by decide +kernel) (by decide +kernel)
theorem fn_X6_33 : Cond.fieldLinkNest RX6 33 "ColdHouse" "TOLD_FIRST" "[I" "ColdHouse" ∈ nw := nw_of (i := 187) (by decide +kernel) (by decide +kernel)
theorem fl_X6_42 : Cond.fieldLink RX6 42 "ColdHouse$State" "ticks" "I" ∈ gw := gw_of (i := 199) (by decide +kernel) (by decide +kernel)
theorem fl_X6_46 : Cond.fieldLink RX6 46 "ColdHouse$State" "ups" "I" ∈ gw := gw_of (i := 202) (by decide +kernel) (by decide +kernel)
theorem fl_X6_49 : Cond.fieldLink RX6 49 "ColdHouse$State" "downs" "I" ∈ gw := gw_of (i := 205) (by decide +kernel) (by decide +kernel)
theorem fl_X6_52 : Cond.fieldLink RX6 52 "ColdHouse$State" "energy" "I" ∈ gw := gw_of (i := 208) (by decide +kernel) (by decide +kernel)
theorem fl_X6_55 : Cond.fieldLink RX6 55 "ColdHouse$State" "locked" "I" ∈ gw := gw_of (i := 211) (by decide +kernel) (by decide +kernel)
theorem fl_X6_58 : Cond.fieldLink RX6 58 "ColdHouse$State" "starting" "I" ∈ gw := gw_of (i := 214) (by decide +kernel) (by decide +kernel)
theorem fl_X6_61 : Cond.fieldLink RX6 61 "ColdHouse$State" "on" "I" ∈ gw := gw_of (i := 218) (by decide +kernel) (by decide +kernel)
theorem fl_X6_65 : Cond.fieldLink RX6 65 "ColdHouse$State" "lastStart" "I" ∈ gw := gw_of (i := 220) (by decide +kernel) (by decide +kernel)
theorem fl_X6_68 : Cond.fieldLink RX6 68 "ColdHouse$State" "listed" "I" ∈ gw := gw_of (i := 222) (by decide +kernel) (by decide +kernel)
theorem fl_X8_7 : Cond.fieldLink RX8 7 "ColdHouseModel" "text" "[I" ∈ gw := gw_of (i := 858) (by decide +kernel) (by decide +kernel)
theorem fl_X8_13 : Cond.fieldLink RX8 13 "ColdHouseModel" "read" "[I" ∈ gw := gw_of (i := 861) (by decide +kernel) (by decide +kernel)
theorem fl_X8_16 : Cond.fieldLink RX8 16 "ColdHouseModel" "told" "[I" ∈ gw := gw_of (i := 862) (by decide +kernel) (by decide +kernel)
theorem fl_X8_19 : Cond.fieldLink RX8 19 "ColdHouseModel" "now" "[I" ∈ gw := gw_of (i := 863) (by decide +kernel) (by decide +kernel)
theorem fl_X8_22 : Cond.fieldLink RX8 22 "ColdHouseModel" "aside" "[I" ∈ gw := gw_of (i := 864) (by decide +kernel) (by decide +kernel)
theorem fl_X8_25 : Cond.fieldLink RX8 25 "ColdHouseModel" "past" "[I" ∈ gw := gw_of (i := 865) (by decide +kernel) (by decide +kernel)
theorem fl_X8_28 : Cond.fieldLink RX8 28 "ColdHouseModel" "numbers" "[I" ∈ gw := gw_of (i := 867) (by decide +kernel) (by decide +kernel)
theorem fl_X8_31 : Cond.fieldLink RX8 31 "ColdHouseModel" "table" "[I" ∈ gw := gw_of (i := 868) (by decide +kernel) (by decide +kernel)
theorem fl_X8_34 : Cond.fieldLink RX8 34 "ColdHouseModel" "makes" "[I" ∈ gw := gw_of (i := 871) (by decide +kernel) (by decide +kernel)
theorem fl_X8_47 : Cond.fieldLink RX8 47 "ColdHouseModel" "changes" "I" ∈ gw := gw_of (i := 866) (by decide +kernel) (by decide +kernel)
theorem fl_X8_51 : Cond.fieldLink RX8 51 "ColdHouseModel" "isLaid" "Z" ∈ gw := gw_of (i := 869) (by decide +kernel) (by decide +kernel)
theorem fl_X8_55 : Cond.fieldLink RX8 55 "ColdHouseModel" "at" "I" ∈ gw := gw_of (i := 860) (by decide +kernel) (by decide +kernel)
theorem fl_X8_58 : Cond.fieldLink RX8 58 "ColdHouseModel" "letters" "I" ∈ gw := gw_of (i := 859) (by decide +kernel) (by decide +kernel)
theorem fl_X8_109 : Cond.fieldLink RX8 109 "ColdHouseModel" "laidLift" "I" ∈ gw := gw_of (i := 870) (by decide +kernel) (by decide +kernel)
theorem fl_X8_131 : Cond.fieldLink RX8 131 "ColdHouseModel" "bestPower" "I" ∈ gw := gw_of (i := 872) (by decide +kernel) (by decide +kernel)
theorem ml_X7_1 : Cond.methodLink RX7 1 ⟨"java/lang/Object", "<init>", "()V"⟩ ∈ gw := gw_of (i := 82) (by decide +kernel) (by decide +kernel)
theorem mn_X7_9 : Cond.methodLinkNest RX7 9 yX3_init "ColdHouse" ∈ nw := nw_of (i := 87) (by decide +kernel) (by decide +kernel)
theorem mn_X7_18 : Cond.methodLinkNest RX7 18 yX2_init "ColdHouse" ∈ nw := nw_of (i := 108) (by decide +kernel) (by decide +kernel)
theorem ml_X7_25 : Cond.methodLink RX7 25 yX6_init ∈ gw := gw_of (i := 179) (by decide +kernel) (by decide +kernel)
theorem ml_X7_35 : Cond.methodLink RX7 35 yX1_init ∈ gw := gw_of (i := 266) (by decide +kernel) (by decide +kernel)
theorem ml_X7_42 : Cond.methodLink RX7 42 yX5_init ∈ gw := gw_of (i := 286) (by decide +kernel) (by decide +kernel)
theorem ml_X7_51 : Cond.methodLink RX7 51 yX4_init ∈ gw := gw_of (i := 334) (by decide +kernel) (by decide +kernel)
theorem ml_X7_58 : Cond.methodLink RX7 58 yX0_init ∈ gw := gw_of (i := 337) (by decide +kernel) (by decide +kernel)
theorem ml_X7_65 : Cond.methodLink RX7 65 yJ0_length_8abf5 ∈ gw := gw_of (i := 361) (by decide +kernel) (by decide +kernel)
theorem ml_X7_71 : Cond.methodLink RX7 71 yJ0_charAt_5068e ∈ gw := gw_of (i := 371) (by decide +kernel) (by decide +kernel)
theorem ml_X7_75 : Cond.methodLink RX7 75 yX3_add ∈ gw := gw_of (i := 409) (by decide +kernel) (by decide +kernel)
theorem ml_X7_79 : Cond.methodLink RX7 79 yX3_layInto ∈ gw := gw_of (i := 413) (by decide +kernel) (by decide +kernel)
theorem ml_X7_82 : Cond.methodLink RX7 82 yX3_empty ∈ gw := gw_of (i := 459) (by decide +kernel) (by decide +kernel)
theorem ml_X7_88 : Cond.methodLink RX7 88 yX3_firstFault ∈ gw := gw_of (i := 501) (by decide +kernel) (by decide +kernel)
theorem ml_X7_91 : Cond.methodLink RX7 91 yX3_machines ∈ gw := gw_of (i := 509) (by decide +kernel) (by decide +kernel)
theorem ml_X7_94 : Cond.methodLink RX7 94 yX6_reset ∈ gw := gw_of (i := 513) (by decide +kernel) (by decide +kernel)
theorem ml_X7_97 : Cond.methodLink RX7 97 yX1_forget ∈ gw := gw_of (i := 514) (by decide +kernel) (by decide +kernel)
theorem ml_X7_103 : Cond.methodLink RX7 103 yX4_forget ∈ gw := gw_of (i := 518) (by decide +kernel) (by decide +kernel)
theorem ml_X7_104 : Cond.methodLink RX7 104 yX0_forget ∈ gw := gw_of (i := 522) (by decide +kernel) (by decide +kernel)
theorem ml_X7_117 : Cond.methodLink RX7 117 yX1_keep ∈ gw := gw_of (i := 534) (by decide +kernel) (by decide +kernel)
theorem ml_X7_121 : Cond.methodLink RX7 121 yX7_isMachine ∈ gw := gw_of (i := 547) (by decide +kernel) (by decide +kernel)
theorem ml_X7_128 : Cond.methodLink RX7 128 yX6_stop ∈ gw := gw_of (i := 551) (by decide +kernel) (by decide +kernel)
theorem ml_X7_132 : Cond.methodLink RX7 132 yX6_takeOffList ∈ gw := gw_of (i := 562) (by decide +kernel) (by decide +kernel)
theorem ml_X7_135 : Cond.methodLink RX7 135 yJ6_bitCount_0f7a4 ∈ gw := gw_of (i := 566) (by decide +kernel) (by decide +kernel)
theorem ml_X7_141 : Cond.methodLink RX7 141 yX6_running ∈ gw := gw_of (i := 576) (by decide +kernel) (by decide +kernel)
theorem ml_X7_144 : Cond.methodLink RX7 144 yX5_fall ∈ gw := gw_of (i := 577) (by decide +kernel) (by decide +kernel)
theorem ml_X7_150 : Cond.methodLink RX7 150 yX6_startedSoFar ∈ gw := gw_of (i := 596) (by decide +kernel) (by decide +kernel)
theorem ml_X7_153 : Cond.methodLink RX7 153 yX5_pass ∈ gw := gw_of (i := 600) (by decide +kernel) (by decide +kernel)
theorem ml_X7_156 : Cond.methodLink RX7 156 yX1_giveBack ∈ gw := gw_of (i := 736) (by decide +kernel) (by decide +kernel)
theorem ml_X7_184 : Cond.methodLink RX7 184 yX7_bitOf ∈ gw := gw_of (i := 744) (by decide +kernel) (by decide +kernel)
theorem ml_X7_197 : Cond.methodLink RX7 197 yX5_mayStart ∈ gw := gw_of (i := 745) (by decide +kernel) (by decide +kernel)
theorem ml_X7_201 : Cond.methodLink RX7 201 yX5_madeBy ∈ gw := gw_of (i := 746) (by decide +kernel) (by decide +kernel)
theorem ml_X7_205 : Cond.methodLink RX7 205 yX6_placeInList ∈ gw := gw_of (i := 754) (by decide +kernel) (by decide +kernel)
theorem ml_X7_208 : Cond.methodLink RX7 208 yX2_powerAt ∈ gw := gw_of (i := 762) (by decide +kernel) (by decide +kernel)
theorem ml_X7_212 : Cond.methodLink RX7 212 yX2_all ∈ gw := gw_of (i := 767) (by decide +kernel) (by decide +kernel)
theorem ml_X7_215 : Cond.methodLink RX7 215 yX7_isLoad ∈ gw := gw_of (i := 771) (by decide +kernel) (by decide +kernel)
theorem ml_X7_218 : Cond.methodLink RX7 218 yX6_lift ∈ gw := gw_of (i := 774) (by decide +kernel) (by decide +kernel)
theorem ml_X7_221 : Cond.methodLink RX7 221 yX4_find ∈ gw := gw_of (i := 775) (by decide +kernel) (by decide +kernel)
theorem ml_X7_225 : Cond.methodLink RX7 225 yX4_leastPower ∈ gw := gw_of (i := 776) (by decide +kernel) (by decide +kernel)
theorem ml_X7_228 : Cond.methodLink RX7 228 yX4_part ∈ gw := gw_of (i := 777) (by decide +kernel) (by decide +kernel)
theorem ml_X7_231 : Cond.methodLink RX7 231 yX0_reckon ∈ gw := gw_of (i := 782) (by decide +kernel) (by decide +kernel)
theorem ml_X7_235 : Cond.methodLink RX7 235 yX0_has ∈ gw := gw_of (i := 804) (by decide +kernel) (by decide +kernel)
theorem ml_X7_238 : Cond.methodLink RX7 238 yX0_setFor ∈ gw := gw_of (i := 808) (by decide +kernel) (by decide +kernel)
theorem ml_X7_241 : Cond.methodLink RX7 241 yX0_leastPower ∈ gw := gw_of (i := 812) (by decide +kernel) (by decide +kernel)
theorem ml_X7_243 : Cond.methodLink RX7 243 yX5_made ∈ gw := gw_of (i := 820) (by decide +kernel) (by decide +kernel)
theorem ml_X7_247 : Cond.methodLink RX7 247 ⟨"java/lang/Math", "max", "(II)I"⟩ ∈ gw := gw_of (i := 821) (by decide +kernel) (by decide +kernel)
theorem ml_X7_252 : Cond.methodLink RX7 252 yX5_powerNow ∈ gw := gw_of (i := 822) (by decide +kernel) (by decide +kernel)
theorem ml_X7_255 : Cond.methodLink RX7 255 yX2_flows ∈ gw := gw_of (i := 823) (by decide +kernel) (by decide +kernel)
theorem ml_X7_258 : Cond.methodLink RX7 258 yX7_aboveBest ∈ gw := gw_of (i := 827) (by decide +kernel) (by decide +kernel)
theorem ml_X7_261 : Cond.methodLink RX7 261 yX6_copyFrom ∈ gw := gw_of (i := 835) (by decide +kernel) (by decide +kernel)
theorem ml_X0_5 : Cond.methodLink RX0 5 ⟨"java/lang/Object", "<init>", "()V"⟩ ∈ gw := gw_of (i := 340) (by decide +kernel) (by decide +kernel)
theorem ml_X0_34 : Cond.methodLink RX0 34 yJ7_fill_53178 ∈ gw := gw_of (i := 787) (by decide +kernel) (by decide +kernel)
theorem mn_X0_45 : Cond.methodLinkNest RX0 45 yX7_bitOf "ColdHouse" ∈ nw := nw_of (i := 788) (by decide +kernel) (by decide +kernel)
theorem ml_X0_49 : Cond.methodLink RX0 49 yX0_addMachine ∈ gw := gw_of (i := 789) (by decide +kernel) (by decide +kernel)
theorem ml_X0_53 : Cond.methodLink RX0 53 yX0_fillRow ∈ gw := gw_of (i := 793) (by decide +kernel) (by decide +kernel)
theorem ml_X0_56 : Cond.methodLink RX0 56 yX2_mosts ∈ gw := gw_of (i := 798) (by decide +kernel) (by decide +kernel)
theorem ml_X0_60 : Cond.methodLink RX0 60 ⟨"java/lang/Math", "min", "(II)I"⟩ ∈ gw := gw_of (i := 799) (by decide +kernel) (by decide +kernel)
theorem ml_X0_68 : Cond.methodLink RX0 68 yX0_leastWith ∈ gw := gw_of (i := 800) (by decide +kernel) (by decide +kernel)
theorem ml_X0_74 : Cond.methodLink RX0 74 yX2_powerAt ∈ gw := gw_of (i := 797) (by decide +kernel) (by decide +kernel)
theorem ml_X1_3 : Cond.methodLink RX1 3 ⟨"java/lang/Object", "<init>", "()V"⟩ ∈ gw := gw_of (i := 269) (by decide +kernel) (by decide +kernel)
theorem ml_X1_17 : Cond.methodLink RX1 17 yX6_init ∈ gw := gw_of (i := 272) (by decide +kernel) (by decide +kernel)
theorem ml_X1_25 : Cond.methodLink RX1 25 yX6_copyFrom ∈ gw := gw_of (i := 538) (by decide +kernel) (by decide +kernel)
theorem ml_X1_29 : Cond.methodLink RX1 29 ⟨"java/lang/Math", "min", "(II)I"⟩ ∈ gw := gw_of (i := 542) (by decide +kernel) (by decide +kernel)
theorem ml_X2_3 : Cond.methodLink RX2 3 ⟨"java/lang/Object", "<init>", "()V"⟩ ∈ gw := gw_of (i := 111) (by decide +kernel) (by decide +kernel)
theorem ml_X2_58 : Cond.methodLink RX2 58 yX2_takeMachine ∈ gw := gw_of (i := 455) (by decide +kernel) (by decide +kernel)
theorem ml_X2_62 : Cond.methodLink RX2 62 yX2_leasts ∈ gw := gw_of (i := 641) (by decide +kernel) (by decide +kernel)
theorem ml_X2_66 : Cond.methodLink RX2 66 yX2_mosts ∈ gw := gw_of (i := 642) (by decide +kernel) (by decide +kernel)
theorem ml_X2_69 : Cond.methodLink RX2 69 yX2_sumOver ∈ gw := gw_of (i := 616) (by decide +kernel) (by decide +kernel)
theorem ml_X3_3 : Cond.methodLink RX3 3 ⟨"java/lang/Object", "<init>", "()V"⟩ ∈ gw := gw_of (i := 90) (by decide +kernel) (by decide +kernel)
theorem ml_X3_26 : Cond.methodLink RX3 26 yX3_readItem ∈ gw := gw_of (i := 421) (by decide +kernel) (by decide +kernel)
theorem ml_X3_30 : Cond.methodLink RX3 30 yX2_reset ∈ gw := gw_of (i := 417) (by decide +kernel) (by decide +kernel)
theorem ml_X3_35 : Cond.methodLink RX3 35 yX2_take ∈ gw := gw_of (i := 450) (by decide +kernel) (by decide +kernel)
theorem ml_X3_39 : Cond.methodLink RX3 39 yX3_letterAt ∈ gw := gw_of (i := 425) (by decide +kernel) (by decide +kernel)
theorem ml_X3_46 : Cond.methodLink RX3 46 yX3_readNumbers ∈ gw := gw_of (i := 431) (by decide +kernel) (by decide +kernel)
theorem ml_X3_62 : Cond.methodLink RX3 62 ⟨"java/lang/Math", "min", "(II)I"⟩ ∈ gw := gw_of (i := 435) (by decide +kernel) (by decide +kernel)
theorem ml_X3_68 : Cond.methodLink RX3 68 yX3_isFigure ∈ gw := gw_of (i := 438) (by decide +kernel) (by decide +kernel)
theorem ml_X4_5 : Cond.methodLink RX4 5 ⟨"java/lang/Object", "<init>", "()V"⟩ ∈ gw := gw_of (i := 295) (by decide +kernel) (by decide +kernel)
theorem ml_X4_36 : Cond.methodLink RX4 36 yX2_can ∈ gw := gw_of (i := 637) (by decide +kernel) (by decide +kernel)
theorem mn_X4_51 : Cond.methodLinkNest RX4 51 yX7_bitOf "ColdHouse" ∈ nw := nw_of (i := 643) (by decide +kernel) (by decide +kernel)
theorem ml_X4_55 : Cond.methodLink RX4 55 yX4_addMachine ∈ gw := gw_of (i := 644) (by decide +kernel) (by decide +kernel)
theorem ml_X4_59 : Cond.methodLink RX4 59 yX4_shiftOf ∈ gw := gw_of (i := 656) (by decide +kernel) (by decide +kernel)
theorem ml_X4_63 : Cond.methodLink RX4 63 yX4_fillRow ∈ gw := gw_of (i := 648) (by decide +kernel) (by decide +kernel)
theorem ml_X4_71 : Cond.methodLink RX4 71 yX2_mosts ∈ gw := gw_of (i := 659) (by decide +kernel) (by decide +kernel)
theorem ml_X4_74 : Cond.methodLink RX4 74 ⟨"java/lang/Math", "max", "(II)I"⟩ ∈ gw := gw_of (i := 660) (by decide +kernel) (by decide +kernel)
theorem ml_X4_82 : Cond.methodLink RX4 82 yX2_leasts ∈ gw := gw_of (i := 661) (by decide +kernel) (by decide +kernel)
theorem ml_X4_85 : Cond.methodLink RX4 85 ⟨"java/lang/Math", "min", "(II)I"⟩ ∈ gw := gw_of (i := 662) (by decide +kernel) (by decide +kernel)
theorem ml_X4_88 : Cond.methodLink RX4 88 yX4_leastWith ∈ gw := gw_of (i := 663) (by decide +kernel) (by decide +kernel)
theorem ml_X4_92 : Cond.methodLink RX4 92 yX2_powerAt ∈ gw := gw_of (i := 652) (by decide +kernel) (by decide +kernel)
theorem ml_X5_3 : Cond.methodLink RX5 3 ⟨"java/lang/Object", "<init>", "()V"⟩ ∈ gw := gw_of (i := 289) (by decide +kernel) (by decide +kernel)
theorem ml_X5_17 : Cond.methodLink RX5 17 yX4_init ∈ gw := gw_of (i := 292) (by decide +kernel) (by decide +kernel)
theorem ml_X5_30 : Cond.methodLink RX5 30 yX2_leasts ∈ gw := gw_of (i := 612) (by decide +kernel) (by decide +kernel)
theorem ml_X5_36 : Cond.methodLink RX5 36 yX2_mosts ∈ gw := gw_of (i := 620) (by decide +kernel) (by decide +kernel)
theorem ml_X5_43 : Cond.methodLink RX5 43 ⟨"java/lang/Math", "min", "(II)I"⟩ ∈ gw := gw_of (i := 624) (by decide +kernel) (by decide +kernel)
theorem ml_X5_49 : Cond.methodLink RX5 49 ⟨"java/lang/Math", "max", "(II)I"⟩ ∈ gw := gw_of (i := 625) (by decide +kernel) (by decide +kernel)
theorem ml_X5_52 : Cond.methodLink RX5 52 yX5_made ∈ gw := gw_of (i := 608) (by decide +kernel) (by decide +kernel)
theorem ml_X5_56 : Cond.methodLink RX5 56 yX6_lift ∈ gw := gw_of (i := 628) (by decide +kernel) (by decide +kernel)
theorem ml_X5_60 : Cond.methodLink RX5 60 yX4_find ∈ gw := gw_of (i := 633) (by decide +kernel) (by decide +kernel)
theorem ml_X5_64 : Cond.methodLink RX5 64 yX4_leastPower ∈ gw := gw_of (i := 668) (by decide +kernel) (by decide +kernel)
theorem ml_X5_67 : Cond.methodLink RX5 67 yX4_part ∈ gw := gw_of (i := 750) (by decide +kernel) (by decide +kernel)
theorem ml_X5_73 : Cond.methodLink RX5 73 yX5_powerNow ∈ gw := gw_of (i := 604) (by decide +kernel) (by decide +kernel)
theorem ml_X5_85 : Cond.methodLink RX5 85 yX6_running ∈ gw := gw_of (i := 581) (by decide +kernel) (by decide +kernel)
theorem mn_X5_88 : Cond.methodLinkNest RX5 88 yX7_bitOf "ColdHouse" ∈ nw := nw_of (i := 586) (by decide +kernel) (by decide +kernel)
theorem ml_X5_91 : Cond.methodLink RX5 91 yX5_comeOn ∈ gw := gw_of (i := 672) (by decide +kernel) (by decide +kernel)
theorem ml_X5_98 : Cond.methodLink RX5 98 yX5_comeBack ∈ gw := gw_of (i := 690) (by decide +kernel) (by decide +kernel)
theorem ml_X5_105 : Cond.methodLink RX5 105 yX5_stageUp ∈ gw := gw_of (i := 707) (by decide +kernel) (by decide +kernel)
theorem ml_X5_108 : Cond.methodLink RX5 108 yX5_stageDown ∈ gw := gw_of (i := 724) (by decide +kernel) (by decide +kernel)
theorem ml_X5_114 : Cond.methodLink RX5 114 yX6_ticksSinceStart ∈ gw := gw_of (i := 676) (by decide +kernel) (by decide +kernel)
theorem ml_X5_117 : Cond.methodLink RX5 117 yX5_gapIsOver ∈ gw := gw_of (i := 694) (by decide +kernel) (by decide +kernel)
theorem ml_X5_121 : Cond.methodLink RX5 121 yX6_firstOfList ∈ gw := gw_of (i := 698) (by decide +kernel) (by decide +kernel)
theorem ml_X5_124 : Cond.methodLink RX5 124 yX6_takeOffList ∈ gw := gw_of (i := 702) (by decide +kernel) (by decide +kernel)
theorem ml_X5_128 : Cond.methodLink RX5 128 yX6_start ∈ gw := gw_of (i := 703) (by decide +kernel) (by decide +kernel)
theorem ml_X5_140 : Cond.methodLink RX5 140 yX5_nextToStart ∈ gw := gw_of (i := 711) (by decide +kernel) (by decide +kernel)
theorem ml_X5_143 : Cond.methodLink RX5 143 yX5_nextToStop ∈ gw := gw_of (i := 728) (by decide +kernel) (by decide +kernel)
theorem ml_X5_149 : Cond.methodLink RX5 149 yX6_stop ∈ gw := gw_of (i := 587) (by decide +kernel) (by decide +kernel)
theorem ml_X5_161 : Cond.methodLink RX5 161 yX6_ticksSinceStop ∈ gw := gw_of (i := 719) (by decide +kernel) (by decide +kernel)
theorem ml_X5_170 : Cond.methodLink RX5 170 yX6_startBack ∈ gw := gw_of (i := 723) (by decide +kernel) (by decide +kernel)
theorem ml_X5_173 : Cond.methodLink RX5 173 yX5_mayStart ∈ gw := gw_of (i := 715) (by decide +kernel) (by decide +kernel)
theorem ml_X5_180 : Cond.methodLink RX5 180 yX5_greatestOf ∈ gw := gw_of (i := 582) (by decide +kernel) (by decide +kernel)
theorem ml_X5_183 : Cond.methodLink RX5 183 yX6_putOnList ∈ gw := gw_of (i := 588) (by decide +kernel) (by decide +kernel)
theorem ml_X6_3 : Cond.methodLink RX6 3 ⟨"java/lang/Object", "<init>", "()V"⟩ ∈ gw := gw_of (i := 182) (by decide +kernel) (by decide +kernel)
theorem ml_X6_30 : Cond.methodLink RX6 30 yX6_reset ∈ gw := gw_of (i := 183) (by decide +kernel) (by decide +kernel)
theorem ml_X6_36 : Cond.methodLink RX6 36 ⟨"java/lang/System", "arraycopy", "(Ljava/lang/Object;ILjava/lang/Object;II)V"⟩ ∈ gw := gw_of (i := 189) (by decide +kernel) (by decide +kernel)
theorem ml_X6_71 : Cond.methodLink RX6 71 yJ7_fill_53178 ∈ gw := gw_of (i := 193) (by decide +kernel) (by decide +kernel)
theorem ml_X6_77 : Cond.methodLink RX6 77 ⟨"java/lang/Math", "max", "(II)I"⟩ ∈ gw := gw_of (i := 632) (by decide +kernel) (by decide +kernel)
theorem ml_X6_83 : Cond.methodLink RX6 83 yX6_ringPlace ∈ gw := gw_of (i := 684) (by decide +kernel) (by decide +kernel)
theorem ml_X6_86 : Cond.methodLink RX6 86 yX6_running ∈ gw := gw_of (i := 555) (by decide +kernel) (by decide +kernel)
theorem mn_X6_90 : Cond.methodLinkNest RX6 90 yX7_bitOf "ColdHouse" ∈ nw := nw_of (i := 559) (by decide +kernel) (by decide +kernel)
theorem ml_X6_93 : Cond.methodLink RX6 93 yX6_startBack ∈ gw := gw_of (i := 680) (by decide +kernel) (by decide +kernel)
theorem ml_X6_96 : Cond.methodLink RX6 96 yJ9_floorMod_7cf53 ∈ gw := gw_of (i := 687) (by decide +kernel) (by decide +kernel)
theorem ml_L_9 : Cond.methodLink "ColdHouseLaw" 9 yX7_init ∈ gw := gw_of (i := 79) (by decide +kernel) (by decide +kernel)
theorem ml_L_12 : Cond.methodLink "ColdHouseLaw" 12 yX8_init ∈ gw := gw_of (i := 842) (by decide +kernel) (by decide +kernel)
theorem ml_L_13 : Cond.methodLink "ColdHouseLaw" 13 yX7_write ∈ gw := gw_of (i := 489) (by decide +kernel) (by decide +kernel)
theorem ml_L_17 : Cond.methodLink "ColdHouseLaw" 17 yX8_write ∈ gw := gw_of (i := 904) (by decide +kernel) (by decide +kernel)
theorem ml_L_18 : Cond.methodLink "ColdHouseLaw" 18 yX7_wipe ∈ gw := gw_of (i := 493) (by decide +kernel) (by decide +kernel)
theorem ml_L_22 : Cond.methodLink "ColdHouseLaw" 22 yX8_wipe ∈ gw := gw_of (i := 911) (by decide +kernel) (by decide +kernel)
theorem ml_L_23 : Cond.methodLink "ColdHouseLaw" 23 yX7_fault ∈ gw := gw_of (i := 497) (by decide +kernel) (by decide +kernel)
theorem ml_L_26 : Cond.methodLink "ColdHouseLaw" 26 yX8_fault ∈ gw := gw_of (i := 915) (by decide +kernel) (by decide +kernel)
theorem ml_L_27 : Cond.methodLink "ColdHouseLaw" 27 yX7_lay ∈ gw := gw_of (i := 505) (by decide +kernel) (by decide +kernel)
theorem ml_L_30 : Cond.methodLink "ColdHouseLaw" 30 yX8_lay ∈ gw := gw_of (i := 943) (by decide +kernel) (by decide +kernel)
theorem ml_L_31 : Cond.methodLink "ColdHouseLaw" 31 yX7_tell ∈ gw := gw_of (i := 526) (by decide +kernel) (by decide +kernel)
theorem ml_L_35 : Cond.methodLink "ColdHouseLaw" 35 yX8_tell ∈ gw := gw_of (i := 951) (by decide +kernel) (by decide +kernel)
theorem ml_L_36 : Cond.methodLink "ColdHouseLaw" 36 yX7_lock ∈ gw := gw_of (i := 543) (by decide +kernel) (by decide +kernel)
theorem ml_L_39 : Cond.methodLink "ColdHouseLaw" 39 yX8_lock ∈ gw := gw_of (i := 959) (by decide +kernel) (by decide +kernel)
theorem ml_L_40 : Cond.methodLink "ColdHouseLaw" 40 yX7_dip ∈ gw := gw_of (i := 572) (by decide +kernel) (by decide +kernel)
theorem ml_L_43 : Cond.methodLink "ColdHouseLaw" 43 yX8_dip ∈ gw := gw_of (i := 986) (by decide +kernel) (by decide +kernel)
theorem ml_L_44 : Cond.methodLink "ColdHouseLaw" 44 yX7_tick ∈ gw := gw_of (i := 592) (by decide +kernel) (by decide +kernel)
theorem ml_L_47 : Cond.methodLink "ColdHouseLaw" 47 yX8_tick ∈ gw := gw_of (i := 998) (by decide +kernel) (by decide +kernel)
theorem ml_L_48 : Cond.methodLink "ColdHouseLaw" 48 yX7_undo ∈ gw := gw_of (i := 732) (by decide +kernel) (by decide +kernel)
theorem ml_L_51 : Cond.methodLink "ColdHouseLaw" 51 yX8_undo ∈ gw := gw_of (i := 947) (by decide +kernel) (by decide +kernel)
theorem ml_L_52 : Cond.methodLink "ColdHouseLaw" 52 yX7_machine ∈ gw := gw_of (i := 740) (by decide +kernel) (by decide +kernel)
theorem ml_L_55 : Cond.methodLink "ColdHouseLaw" 55 yX8_machine ∈ gw := gw_of (i := 1077) (by decide +kernel) (by decide +kernel)
theorem ml_L_56 : Cond.methodLink "ColdHouseLaw" 56 yX7_power ∈ gw := gw_of (i := 758) (by decide +kernel) (by decide +kernel)
theorem ml_L_60 : Cond.methodLink "ColdHouseLaw" 60 yX8_power ∈ gw := gw_of (i := 1085) (by decide +kernel) (by decide +kernel)
theorem ml_L_61 : Cond.methodLink "ColdHouseLaw" 61 yX7_share ∈ gw := gw_of (i := 763) (by decide +kernel) (by decide +kernel)
theorem ml_L_64 : Cond.methodLink "ColdHouseLaw" 64 yX8_share ∈ gw := gw_of (i := 1089) (by decide +kernel) (by decide +kernel)
theorem ml_L_65 : Cond.methodLink "ColdHouseLaw" 65 yX7_best ∈ gw := gw_of (i := 778) (by decide +kernel) (by decide +kernel)
theorem ml_L_68 : Cond.methodLink "ColdHouseLaw" 68 yX8_best ∈ gw := gw_of (i := 1093) (by decide +kernel) (by decide +kernel)
theorem ml_L_69 : Cond.methodLink "ColdHouseLaw" 69 yX7_now ∈ gw := gw_of (i := 816) (by decide +kernel) (by decide +kernel)
theorem ml_L_72 : Cond.methodLink "ColdHouseLaw" 72 yX8_now ∈ gw := gw_of (i := 1101) (by decide +kernel) (by decide +kernel)
theorem ml_L_73 : Cond.methodLink "ColdHouseLaw" 73 yX7_ahead ∈ gw := gw_of (i := 831) (by decide +kernel) (by decide +kernel)
theorem ml_L_76 : Cond.methodLink "ColdHouseLaw" 76 yX8_ahead ∈ gw := gw_of (i := 1109) (by decide +kernel) (by decide +kernel)
theorem ml_L_77 : Cond.methodLink "ColdHouseLaw" 77 yX7_count ∈ gw := gw_of (i := 836) (by decide +kernel) (by decide +kernel)
theorem ml_L_80 : Cond.methodLink "ColdHouseLaw" 80 yX8_count ∈ gw := gw_of (i := 1113) (by decide +kernel) (by decide +kernel)
theorem ml_X8_1 : Cond.methodLink RX8 1 ⟨"java/lang/Object", "<init>", "()V"⟩ ∈ gw := gw_of (i := 845) (by decide +kernel) (by decide +kernel)
theorem ml_X8_37 : Cond.methodLink RX8 37 yX8_beginRead ∈ gw := gw_of (i := 846) (by decide +kernel) (by decide +kernel)
theorem ml_X8_40 : Cond.methodLink RX8 40 yX8_putMachine ∈ gw := gw_of (i := 850) (by decide +kernel) (by decide +kernel)
theorem ml_X8_44 : Cond.methodLink RX8 44 yX8_takeRead ∈ gw := gw_of (i := 854) (by decide +kernel) (by decide +kernel)
theorem ml_X8_61 : Cond.methodLink RX8 61 yX8_in ∈ gw := gw_of (i := 908) (by decide +kernel) (by decide +kernel)
theorem ml_X8_65 : Cond.methodLink RX8 65 yX8_isFigure ∈ gw := gw_of (i := 931) (by decide +kernel) (by decide +kernel)
theorem ml_X8_69 : Cond.methodLink RX8 69 yX8_readNumbers ∈ gw := gw_of (i := 927) (by decide +kernel) (by decide +kernel)
theorem ml_X8_73 : Cond.methodLink RX8 73 yX8_isNumber ∈ gw := gw_of (i := 935) (by decide +kernel) (by decide +kernel)
theorem ml_X8_76 : Cond.methodLink RX8 76 yX8_readMachine ∈ gw := gw_of (i := 923) (by decide +kernel) (by decide +kernel)
theorem ml_X8_79 : Cond.methodLink RX8 79 yX8_readOther ∈ gw := gw_of (i := 939) (by decide +kernel) (by decide +kernel)
theorem ml_X8_82 : Cond.methodLink RX8 82 yX8_readText ∈ gw := gw_of (i := 919) (by decide +kernel) (by decide +kernel)
theorem ml_X8_86 : Cond.methodLink RX8 86 yX8_has ∈ gw := gw_of (i := 1026) (by decide +kernel) (by decide +kernel)
theorem ml_X8_90 : Cond.methodLink RX8 90 yX8_sumOf ∈ gw := gw_of (i := 1045) (by decide +kernel) (by decide +kernel)
theorem ml_X8_95 : Cond.methodLink RX8 95 yX8_leastOf ∈ gw := gw_of (i := 1033) (by decide +kernel) (by decide +kernel)
theorem ml_X8_99 : Cond.methodLink RX8 99 yX8_mostOf ∈ gw := gw_of (i := 994) (by decide +kernel) (by decide +kernel)
theorem ml_X8_102 : Cond.methodLink RX8 102 yX8_powerOf ∈ gw := gw_of (i := 1037) (by decide +kernel) (by decide +kernel)
theorem ml_X8_106 : Cond.methodLink RX8 106 yX8_lift ∈ gw := gw_of (i := 1018) (by decide +kernel) (by decide +kernel)
theorem ml_X8_112 : Cond.methodLink RX8 112 yX8_lowest ∈ gw := gw_of (i := 1023) (by decide +kernel) (by decide +kernel)
theorem ml_X8_115 : Cond.methodLink RX8 115 yX8_leastBy ∈ gw := gw_of (i := 1029) (by decide +kernel) (by decide +kernel)
theorem ml_X8_119 : Cond.methodLink RX8 119 yX8_leastPower ∈ gw := gw_of (i := 1053) (by decide +kernel) (by decide +kernel)
theorem ml_X8_122 : Cond.methodLink RX8 122 yX8_own ∈ gw := gw_of (i := 967) (by decide +kernel) (by decide +kernel)
theorem ml_X8_125 : Cond.methodLink RX8 125 yX8_layTable ∈ gw := gw_of (i := 1014) (by decide +kernel) (by decide +kernel)
theorem ml_X8_128 : Cond.methodLink RX8 128 yX8_lockedOnes ∈ gw := gw_of (i := 979) (by decide +kernel) (by decide +kernel)
theorem ml_X8_134 : Cond.methodLink RX8 134 yX8_can ∈ gw := gw_of (i := 1041) (by decide +kernel) (by decide +kernel)
theorem ml_X8_137 : Cond.methodLink RX8 137 yX8_ones ∈ gw := gw_of (i := 983) (by decide +kernel) (by decide +kernel)
theorem ml_X8_140 : Cond.methodLink RX8 140 yX8_standing ∈ gw := gw_of (i := 990) (by decide +kernel) (by decide +kernel)
theorem ml_X8_143 : Cond.methodLink RX8 143 yX8_layShare ∈ gw := gw_of (i := 1049) (by decide +kernel) (by decide +kernel)
theorem ml_X8_147 : Cond.methodLink RX8 147 yX8_made ∈ gw := gw_of (i := 1010) (by decide +kernel) (by decide +kernel)
theorem ml_X8_150 : Cond.methodLink RX8 150 yX8_isGapOver ∈ gw := gw_of (i := 1057) (by decide +kernel) (by decide +kernel)
theorem ml_X8_153 : Cond.methodLink RX8 153 yX8_mayStart ∈ gw := gw_of (i := 1073) (by decide +kernel) (by decide +kernel)
theorem ml_X8_156 : Cond.methodLink RX8 156 yX8_powerNow ∈ gw := gw_of (i := 1006) (by decide +kernel) (by decide +kernel)
theorem ml_X8_159 : Cond.methodLink RX8 159 yX8_unlist ∈ gw := gw_of (i := 971) (by decide +kernel) (by decide +kernel)
theorem ml_X8_163 : Cond.methodLink RX8 163 yX8_start ∈ gw := gw_of (i := 1061) (by decide +kernel) (by decide +kernel)
theorem ml_X8_166 : Cond.methodLink RX8 166 yX8_stopper ∈ gw := gw_of (i := 1065) (by decide +kernel) (by decide +kernel)
theorem ml_X8_169 : Cond.methodLink RX8 169 yX8_starter ∈ gw := gw_of (i := 1069) (by decide +kernel) (by decide +kernel)
theorem ml_X8_172 : Cond.methodLink RX8 172 yX8_stop ∈ gw := gw_of (i := 975) (by decide +kernel) (by decide +kernel)
theorem ml_X8_175 : Cond.methodLink RX8 175 yX8_note ∈ gw := gw_of (i := 955) (by decide +kernel) (by decide +kernel)
theorem ml_X8_178 : Cond.methodLink RX8 178 yX8_isMachine ∈ gw := gw_of (i := 963) (by decide +kernel) (by decide +kernel)
theorem ml_X8_181 : Cond.methodLink RX8 181 yX8_tickOnce ∈ gw := gw_of (i := 1002) (by decide +kernel) (by decide +kernel)
theorem ml_X8_184 : Cond.methodLink RX8 184 yX8_placeInList ∈ gw := gw_of (i := 1081) (by decide +kernel) (by decide +kernel)
theorem ml_X8_187 : Cond.methodLink RX8 187 yX8_findBest ∈ gw := gw_of (i := 1097) (by decide +kernel) (by decide +kernel)
theorem ml_X8_190 : Cond.methodLink RX8 190 yX8_more ∈ gw := gw_of (i := 1105) (by decide +kernel) (by decide +kernel)
theorem ml_J0_335 : Cond.methodLink RJ0 335 yJ0_coder_7d493 ∈ gw := gw_of (i := 365) (by decide +kernel) (by decide +kernel)
theorem ml_J0_492 : Cond.methodLink RJ0 492 yJ0_isLatin1_aae02 ∈ gw := gw_of (i := 375) (by decide +kernel) (by decide +kernel)
theorem ml_J0_495 : Cond.methodLink RJ0 495 yJ1_charAt_3b067 ∈ gw := gw_of (i := 379) (by decide +kernel) (by decide +kernel)
theorem ml_J0_498 : Cond.methodLink RJ0 498 ⟨"java/lang/StringUTF16", "charAt", "([BI)C"⟩ ∈ gw := gw_of (i := 390) (by decide +kernel) (by decide +kernel)
theorem ml_J0_1059 : Cond.methodLink RJ0 1059 yJ3_checkIndex_8e157 ∈ gw := gw_of (i := 387) (by decide +kernel) (by decide +kernel)
theorem ml_J1_9 : Cond.methodLink RJ1 9 yJ0_checkIndex_df160 ∈ gw := gw_of (i := 382) (by decide +kernel) (by decide +kernel)
theorem co_X0_init : Cond.code yX0_init cX0_init 2 none ∈ gw := gw_of (i := 339) (by decide +kernel) (by decide +kernel)
theorem im_X0_init : Cond.instanceMethod yX0_init ∈ gw := gw_of (i := 338) (by decide +kernel) (by decide +kernel)
theorem co_X0_forget : Cond.code yX0_forget cX0_forget 1 none ∈ gw := gw_of (i := 525) (by decide +kernel) (by decide +kernel)
theorem im_X0_forget : Cond.instanceMethod yX0_forget ∈ gw := gw_of (i := 523) (by decide +kernel) (by decide +kernel)
theorem se_X0_forget : Cond.selects RX0 yX0_forget yX0_forget ∈ gw := gw_of (i := 524) (by decide +kernel) (by decide +kernel)
theorem co_X0_reckon : Cond.code yX0_reckon cX0_reckon 4 none ∈ gw := gw_of (i := 785) (by decide +kernel) (by decide +kernel)
theorem im_X0_reckon : Cond.instanceMethod yX0_reckon ∈ gw := gw_of (i := 783) (by decide +kernel) (by decide +kernel)
theorem se_X0_reckon : Cond.selects RX0 yX0_reckon yX0_reckon ∈ gw := gw_of (i := 784) (by decide +kernel) (by decide +kernel)
theorem co_X0_has : Cond.code yX0_has cX0_has 2 (some .boolean) ∈ gw := gw_of (i := 807) (by decide +kernel) (by decide +kernel)
theorem im_X0_has : Cond.instanceMethod yX0_has ∈ gw := gw_of (i := 805) (by decide +kernel) (by decide +kernel)
theorem se_X0_has : Cond.selects RX0 yX0_has yX0_has ∈ gw := gw_of (i := 806) (by decide +kernel) (by decide +kernel)
theorem co_X0_setFor : Cond.code yX0_setFor cX0_setFor 2 (some .int) ∈ gw := gw_of (i := 811) (by decide +kernel) (by decide +kernel)
theorem im_X0_setFor : Cond.instanceMethod yX0_setFor ∈ gw := gw_of (i := 809) (by decide +kernel) (by decide +kernel)
theorem se_X0_setFor : Cond.selects RX0 yX0_setFor yX0_setFor ∈ gw := gw_of (i := 810) (by decide +kernel) (by decide +kernel)
theorem co_X0_leastPower : Cond.code yX0_leastPower cX0_leastPower 2 (some .int) ∈ gw := gw_of (i := 815) (by decide +kernel) (by decide +kernel)
theorem im_X0_leastPower : Cond.instanceMethod yX0_leastPower ∈ gw := gw_of (i := 813) (by decide +kernel) (by decide +kernel)
theorem se_X0_leastPower : Cond.selects RX0 yX0_leastPower yX0_leastPower ∈ gw := gw_of (i := 814) (by decide +kernel) (by decide +kernel)
theorem co_X0_addMachine : Cond.code yX0_addMachine cX0_addMachine 4 none ∈ gw := gw_of (i := 792) (by decide +kernel) (by decide +kernel)
theorem im_X0_addMachine : Cond.instanceMethod yX0_addMachine ∈ gw := gw_of (i := 791) (by decide +kernel) (by decide +kernel)
theorem se_X0_addMachine : Cond.selects RX0 yX0_addMachine yX0_addMachine ∈ gw := gw_of (i := 18) (by decide +kernel) (by decide +kernel)
theorem co_X0_fillRow : Cond.code yX0_fillRow cX0_fillRow 3 none ∈ gw := gw_of (i := 796) (by decide +kernel) (by decide +kernel)
theorem im_X0_fillRow : Cond.instanceMethod yX0_fillRow ∈ gw := gw_of (i := 795) (by decide +kernel) (by decide +kernel)
theorem se_X0_fillRow : Cond.selects RX0 yX0_fillRow yX0_fillRow ∈ gw := gw_of (i := 19) (by decide +kernel) (by decide +kernel)
theorem co_X0_leastWith : Cond.code yX0_leastWith cX0_leastWith 7 (some .int) ∈ gw := gw_of (i := 803) (by decide +kernel) (by decide +kernel)
theorem im_X0_leastWith : Cond.instanceMethod yX0_leastWith ∈ gw := gw_of (i := 802) (by decide +kernel) (by decide +kernel)
theorem se_X0_leastWith : Cond.selects RX0 yX0_leastWith yX0_leastWith ∈ gw := gw_of (i := 20) (by decide +kernel) (by decide +kernel)
theorem co_X1_init : Cond.code yX1_init cX1_init 2 none ∈ gw := gw_of (i := 268) (by decide +kernel) (by decide +kernel)
theorem im_X1_init : Cond.instanceMethod yX1_init ∈ gw := gw_of (i := 267) (by decide +kernel) (by decide +kernel)
theorem co_X1_forget : Cond.code yX1_forget cX1_forget 1 none ∈ gw := gw_of (i := 517) (by decide +kernel) (by decide +kernel)
theorem im_X1_forget : Cond.instanceMethod yX1_forget ∈ gw := gw_of (i := 515) (by decide +kernel) (by decide +kernel)
theorem se_X1_forget : Cond.selects RX1 yX1_forget yX1_forget ∈ gw := gw_of (i := 516) (by decide +kernel) (by decide +kernel)
theorem co_X1_keep : Cond.code yX1_keep cX1_keep 2 none ∈ gw := gw_of (i := 537) (by decide +kernel) (by decide +kernel)
theorem im_X1_keep : Cond.instanceMethod yX1_keep ∈ gw := gw_of (i := 535) (by decide +kernel) (by decide +kernel)
theorem se_X1_keep : Cond.selects RX1 yX1_keep yX1_keep ∈ gw := gw_of (i := 536) (by decide +kernel) (by decide +kernel)
theorem co_X1_giveBack : Cond.code yX1_giveBack cX1_giveBack 2 (some .boolean) ∈ gw := gw_of (i := 739) (by decide +kernel) (by decide +kernel)
theorem im_X1_giveBack : Cond.instanceMethod yX1_giveBack ∈ gw := gw_of (i := 737) (by decide +kernel) (by decide +kernel)
theorem se_X1_giveBack : Cond.selects RX1 yX1_giveBack yX1_giveBack ∈ gw := gw_of (i := 738) (by decide +kernel) (by decide +kernel)
theorem co_X2_init : Cond.code yX2_init cX2_init 1 none ∈ gw := gw_of (i := 110) (by decide +kernel) (by decide +kernel)
theorem im_X2_init : Cond.instanceMethod yX2_init ∈ gw := gw_of (i := 109) (by decide +kernel) (by decide +kernel)
theorem co_X2_reset : Cond.code yX2_reset cX2_reset 1 none ∈ gw := gw_of (i := 420) (by decide +kernel) (by decide +kernel)
theorem im_X2_reset : Cond.instanceMethod yX2_reset ∈ gw := gw_of (i := 418) (by decide +kernel) (by decide +kernel)
theorem se_X2_reset : Cond.selects RX2 yX2_reset yX2_reset ∈ gw := gw_of (i := 419) (by decide +kernel) (by decide +kernel)
theorem co_X2_take : Cond.code yX2_take cX2_take 3 none ∈ gw := gw_of (i := 453) (by decide +kernel) (by decide +kernel)
theorem im_X2_take : Cond.instanceMethod yX2_take ∈ gw := gw_of (i := 451) (by decide +kernel) (by decide +kernel)
theorem se_X2_take : Cond.selects RX2 yX2_take yX2_take ∈ gw := gw_of (i := 452) (by decide +kernel) (by decide +kernel)
theorem co_X2_takeMachine : Cond.code yX2_takeMachine cX2_takeMachine 2 none ∈ gw := gw_of (i := 458) (by decide +kernel) (by decide +kernel)
theorem im_X2_takeMachine : Cond.instanceMethod yX2_takeMachine ∈ gw := gw_of (i := 457) (by decide +kernel) (by decide +kernel)
theorem se_X2_takeMachine : Cond.selects RX2 yX2_takeMachine yX2_takeMachine ∈ gw := gw_of (i := 4) (by decide +kernel) (by decide +kernel)
theorem co_X2_all : Cond.code yX2_all cX2_all 1 (some .int) ∈ gw := gw_of (i := 770) (by decide +kernel) (by decide +kernel)
theorem im_X2_all : Cond.instanceMethod yX2_all ∈ gw := gw_of (i := 768) (by decide +kernel) (by decide +kernel)
theorem se_X2_all : Cond.selects RX2 yX2_all yX2_all ∈ gw := gw_of (i := 769) (by decide +kernel) (by decide +kernel)
theorem co_X2_powerAt : Cond.code yX2_powerAt cX2_powerAt 4 (some .int) ∈ gw := gw_of (i := 655) (by decide +kernel) (by decide +kernel)
theorem im_X2_powerAt : Cond.instanceMethod yX2_powerAt ∈ gw := gw_of (i := 653) (by decide +kernel) (by decide +kernel)
theorem se_X2_powerAt : Cond.selects RX2 yX2_powerAt yX2_powerAt ∈ gw := gw_of (i := 654) (by decide +kernel) (by decide +kernel)
theorem co_X2_can : Cond.code yX2_can cX2_can 3 (some .boolean) ∈ gw := gw_of (i := 640) (by decide +kernel) (by decide +kernel)
theorem im_X2_can : Cond.instanceMethod yX2_can ∈ gw := gw_of (i := 638) (by decide +kernel) (by decide +kernel)
theorem se_X2_can : Cond.selects RX2 yX2_can yX2_can ∈ gw := gw_of (i := 639) (by decide +kernel) (by decide +kernel)
theorem co_X2_leasts : Cond.code yX2_leasts cX2_leasts 2 (some .int) ∈ gw := gw_of (i := 615) (by decide +kernel) (by decide +kernel)
theorem im_X2_leasts : Cond.instanceMethod yX2_leasts ∈ gw := gw_of (i := 613) (by decide +kernel) (by decide +kernel)
theorem se_X2_leasts : Cond.selects RX2 yX2_leasts yX2_leasts ∈ gw := gw_of (i := 614) (by decide +kernel) (by decide +kernel)
theorem co_X2_mosts : Cond.code yX2_mosts cX2_mosts 2 (some .int) ∈ gw := gw_of (i := 623) (by decide +kernel) (by decide +kernel)
theorem im_X2_mosts : Cond.instanceMethod yX2_mosts ∈ gw := gw_of (i := 621) (by decide +kernel) (by decide +kernel)
theorem se_X2_mosts : Cond.selects RX2 yX2_mosts yX2_mosts ∈ gw := gw_of (i := 622) (by decide +kernel) (by decide +kernel)
theorem co_X2_flows : Cond.code yX2_flows cX2_flows 2 (some .int) ∈ gw := gw_of (i := 826) (by decide +kernel) (by decide +kernel)
theorem im_X2_flows : Cond.instanceMethod yX2_flows ∈ gw := gw_of (i := 824) (by decide +kernel) (by decide +kernel)
theorem se_X2_flows : Cond.selects RX2 yX2_flows yX2_flows ∈ gw := gw_of (i := 825) (by decide +kernel) (by decide +kernel)
theorem co_X2_sumOver : Cond.code yX2_sumOver cX2_sumOver 5 (some .int) ∈ gw := gw_of (i := 619) (by decide +kernel) (by decide +kernel)
theorem im_X2_sumOver : Cond.instanceMethod yX2_sumOver ∈ gw := gw_of (i := 618) (by decide +kernel) (by decide +kernel)
theorem se_X2_sumOver : Cond.selects RX2 yX2_sumOver yX2_sumOver ∈ gw := gw_of (i := 7) (by decide +kernel) (by decide +kernel)
theorem co_X3_init : Cond.code yX3_init cX3_init 1 none ∈ gw := gw_of (i := 89) (by decide +kernel) (by decide +kernel)
theorem im_X3_init : Cond.instanceMethod yX3_init ∈ gw := gw_of (i := 88) (by decide +kernel) (by decide +kernel)
theorem co_X3_add : Cond.code yX3_add cX3_add 2 (some .boolean) ∈ gw := gw_of (i := 412) (by decide +kernel) (by decide +kernel)
theorem im_X3_add : Cond.instanceMethod yX3_add ∈ gw := gw_of (i := 410) (by decide +kernel) (by decide +kernel)
theorem se_X3_add : Cond.selects RX3 yX3_add yX3_add ∈ gw := gw_of (i := 411) (by decide +kernel) (by decide +kernel)
theorem co_X3_empty : Cond.code yX3_empty cX3_empty 1 none ∈ gw := gw_of (i := 462) (by decide +kernel) (by decide +kernel)
theorem im_X3_empty : Cond.instanceMethod yX3_empty ∈ gw := gw_of (i := 460) (by decide +kernel) (by decide +kernel)
theorem se_X3_empty : Cond.selects RX3 yX3_empty yX3_empty ∈ gw := gw_of (i := 461) (by decide +kernel) (by decide +kernel)
theorem co_X3_firstFault : Cond.code yX3_firstFault cX3_firstFault 5 (some .int) ∈ gw := gw_of (i := 504) (by decide +kernel) (by decide +kernel)
theorem im_X3_firstFault : Cond.instanceMethod yX3_firstFault ∈ gw := gw_of (i := 502) (by decide +kernel) (by decide +kernel)
theorem se_X3_firstFault : Cond.selects RX3 yX3_firstFault yX3_firstFault ∈ gw := gw_of (i := 503) (by decide +kernel) (by decide +kernel)
theorem co_X3_machines : Cond.code yX3_machines cX3_machines 3 (some .int) ∈ gw := gw_of (i := 512) (by decide +kernel) (by decide +kernel)
theorem im_X3_machines : Cond.instanceMethod yX3_machines ∈ gw := gw_of (i := 510) (by decide +kernel) (by decide +kernel)
theorem se_X3_machines : Cond.selects RX3 yX3_machines yX3_machines ∈ gw := gw_of (i := 511) (by decide +kernel) (by decide +kernel)
theorem co_X3_layInto : Cond.code yX3_layInto cX3_layInto 5 none ∈ gw := gw_of (i := 416) (by decide +kernel) (by decide +kernel)
theorem im_X3_layInto : Cond.instanceMethod yX3_layInto ∈ gw := gw_of (i := 414) (by decide +kernel) (by decide +kernel)
theorem se_X3_layInto : Cond.selects RX3 yX3_layInto yX3_layInto ∈ gw := gw_of (i := 415) (by decide +kernel) (by decide +kernel)
theorem co_X3_readItem : Cond.code yX3_readItem cX3_readItem 4 (some .int) ∈ gw := gw_of (i := 424) (by decide +kernel) (by decide +kernel)
theorem im_X3_readItem : Cond.instanceMethod yX3_readItem ∈ gw := gw_of (i := 423) (by decide +kernel) (by decide +kernel)
theorem se_X3_readItem : Cond.selects RX3 yX3_readItem yX3_readItem ∈ gw := gw_of (i := 0) (by decide +kernel) (by decide +kernel)
theorem co_X3_readNumbers : Cond.code yX3_readNumbers cX3_readNumbers 9 (some .int) ∈ gw := gw_of (i := 434) (by decide +kernel) (by decide +kernel)
theorem im_X3_readNumbers : Cond.instanceMethod yX3_readNumbers ∈ gw := gw_of (i := 433) (by decide +kernel) (by decide +kernel)
theorem se_X3_readNumbers : Cond.selects RX3 yX3_readNumbers yX3_readNumbers ∈ gw := gw_of (i := 2) (by decide +kernel) (by decide +kernel)
theorem co_X3_isFigure : Cond.code yX3_isFigure cX3_isFigure 3 (some .boolean) ∈ gw := gw_of (i := 441) (by decide +kernel) (by decide +kernel)
theorem im_X3_isFigure : Cond.instanceMethod yX3_isFigure ∈ gw := gw_of (i := 440) (by decide +kernel) (by decide +kernel)
theorem se_X3_isFigure : Cond.selects RX3 yX3_isFigure yX3_isFigure ∈ gw := gw_of (i := 3) (by decide +kernel) (by decide +kernel)
theorem co_X3_letterAt : Cond.code yX3_letterAt cX3_letterAt 2 (some .char) ∈ gw := gw_of (i := 428) (by decide +kernel) (by decide +kernel)
theorem im_X3_letterAt : Cond.instanceMethod yX3_letterAt ∈ gw := gw_of (i := 427) (by decide +kernel) (by decide +kernel)
theorem se_X3_letterAt : Cond.selects RX3 yX3_letterAt yX3_letterAt ∈ gw := gw_of (i := 1) (by decide +kernel) (by decide +kernel)
theorem co_X4_init : Cond.code yX4_init cX4_init 2 none ∈ gw := gw_of (i := 294) (by decide +kernel) (by decide +kernel)
theorem im_X4_init : Cond.instanceMethod yX4_init ∈ gw := gw_of (i := 293) (by decide +kernel) (by decide +kernel)
theorem co_X4_forget : Cond.code yX4_forget cX4_forget 1 none ∈ gw := gw_of (i := 521) (by decide +kernel) (by decide +kernel)
theorem im_X4_forget : Cond.instanceMethod yX4_forget ∈ gw := gw_of (i := 519) (by decide +kernel) (by decide +kernel)
theorem se_X4_forget : Cond.selects RX4 yX4_forget yX4_forget ∈ gw := gw_of (i := 520) (by decide +kernel) (by decide +kernel)
theorem co_X4_find : Cond.code yX4_find cX4_find 5 (some .boolean) ∈ gw := gw_of (i := 636) (by decide +kernel) (by decide +kernel)
theorem im_X4_find : Cond.instanceMethod yX4_find ∈ gw := gw_of (i := 634) (by decide +kernel) (by decide +kernel)
theorem se_X4_find : Cond.selects RX4 yX4_find yX4_find ∈ gw := gw_of (i := 635) (by decide +kernel) (by decide +kernel)
theorem co_X4_leastPower : Cond.code yX4_leastPower cX4_leastPower 1 (some .int) ∈ gw := gw_of (i := 671) (by decide +kernel) (by decide +kernel)
theorem im_X4_leastPower : Cond.instanceMethod yX4_leastPower ∈ gw := gw_of (i := 669) (by decide +kernel) (by decide +kernel)
theorem se_X4_leastPower : Cond.selects RX4 yX4_leastPower yX4_leastPower ∈ gw := gw_of (i := 670) (by decide +kernel) (by decide +kernel)
theorem co_X4_part : Cond.code yX4_part cX4_part 2 (some .int) ∈ gw := gw_of (i := 753) (by decide +kernel) (by decide +kernel)
theorem im_X4_part : Cond.instanceMethod yX4_part ∈ gw := gw_of (i := 751) (by decide +kernel) (by decide +kernel)
theorem se_X4_part : Cond.selects RX4 yX4_part yX4_part ∈ gw := gw_of (i := 752) (by decide +kernel) (by decide +kernel)
theorem co_X4_shiftOf : Cond.code yX4_shiftOf cX4_shiftOf 1 (some .int) ∈ gw := gw_of (i := 658) (by decide +kernel) (by decide +kernel)
theorem sm_X4_shiftOf : Cond.static yX4_shiftOf ∈ gw := gw_of (i := 657) (by decide +kernel) (by decide +kernel)
theorem co_X4_addMachine : Cond.code yX4_addMachine cX4_addMachine 6 none ∈ gw := gw_of (i := 647) (by decide +kernel) (by decide +kernel)
theorem im_X4_addMachine : Cond.instanceMethod yX4_addMachine ∈ gw := gw_of (i := 646) (by decide +kernel) (by decide +kernel)
theorem se_X4_addMachine : Cond.selects RX4 yX4_addMachine yX4_addMachine ∈ gw := gw_of (i := 8) (by decide +kernel) (by decide +kernel)
theorem co_X4_fillRow : Cond.code yX4_fillRow cX4_fillRow 3 none ∈ gw := gw_of (i := 651) (by decide +kernel) (by decide +kernel)
theorem im_X4_fillRow : Cond.instanceMethod yX4_fillRow ∈ gw := gw_of (i := 650) (by decide +kernel) (by decide +kernel)
theorem se_X4_fillRow : Cond.selects RX4 yX4_fillRow yX4_fillRow ∈ gw := gw_of (i := 9) (by decide +kernel) (by decide +kernel)
theorem co_X4_leastWith : Cond.code yX4_leastWith cX4_leastWith 9 (some .long) ∈ gw := gw_of (i := 666) (by decide +kernel) (by decide +kernel)
theorem im_X4_leastWith : Cond.instanceMethod yX4_leastWith ∈ gw := gw_of (i := 665) (by decide +kernel) (by decide +kernel)
theorem se_X4_leastWith : Cond.selects RX4 yX4_leastWith yX4_leastWith ∈ gw := gw_of (i := 10) (by decide +kernel) (by decide +kernel)
theorem co_X5_init : Cond.code yX5_init cX5_init 2 none ∈ gw := gw_of (i := 288) (by decide +kernel) (by decide +kernel)
theorem im_X5_init : Cond.instanceMethod yX5_init ∈ gw := gw_of (i := 287) (by decide +kernel) (by decide +kernel)
theorem co_X5_made : Cond.code yX5_made cX5_made 2 (some .int) ∈ gw := gw_of (i := 611) (by decide +kernel) (by decide +kernel)
theorem im_X5_made : Cond.instanceMethod yX5_made ∈ gw := gw_of (i := 609) (by decide +kernel) (by decide +kernel)
theorem se_X5_made : Cond.selects RX5 yX5_made yX5_made ∈ gw := gw_of (i := 610) (by decide +kernel) (by decide +kernel)
theorem co_X5_powerNow : Cond.code yX5_powerNow cX5_powerNow 2 (some .int) ∈ gw := gw_of (i := 607) (by decide +kernel) (by decide +kernel)
theorem im_X5_powerNow : Cond.instanceMethod yX5_powerNow ∈ gw := gw_of (i := 605) (by decide +kernel) (by decide +kernel)
theorem se_X5_powerNow : Cond.selects RX5 yX5_powerNow yX5_powerNow ∈ gw := gw_of (i := 606) (by decide +kernel) (by decide +kernel)
theorem co_X5_madeBy : Cond.code yX5_madeBy cX5_madeBy 3 (some .int) ∈ gw := gw_of (i := 749) (by decide +kernel) (by decide +kernel)
theorem im_X5_madeBy : Cond.instanceMethod yX5_madeBy ∈ gw := gw_of (i := 747) (by decide +kernel) (by decide +kernel)
theorem se_X5_madeBy : Cond.selects RX5 yX5_madeBy yX5_madeBy ∈ gw := gw_of (i := 748) (by decide +kernel) (by decide +kernel)
theorem co_X5_pass : Cond.code yX5_pass cX5_pass 3 none ∈ gw := gw_of (i := 603) (by decide +kernel) (by decide +kernel)
theorem im_X5_pass : Cond.instanceMethod yX5_pass ∈ gw := gw_of (i := 601) (by decide +kernel) (by decide +kernel)
theorem se_X5_pass : Cond.selects RX5 yX5_pass yX5_pass ∈ gw := gw_of (i := 602) (by decide +kernel) (by decide +kernel)
theorem co_X5_comeOn : Cond.code yX5_comeOn cX5_comeOn 3 none ∈ gw := gw_of (i := 675) (by decide +kernel) (by decide +kernel)
theorem im_X5_comeOn : Cond.instanceMethod yX5_comeOn ∈ gw := gw_of (i := 674) (by decide +kernel) (by decide +kernel)
theorem se_X5_comeOn : Cond.selects RX5 yX5_comeOn yX5_comeOn ∈ gw := gw_of (i := 11) (by decide +kernel) (by decide +kernel)
theorem co_X5_comeBack : Cond.code yX5_comeBack cX5_comeBack 3 none ∈ gw := gw_of (i := 693) (by decide +kernel) (by decide +kernel)
theorem im_X5_comeBack : Cond.instanceMethod yX5_comeBack ∈ gw := gw_of (i := 692) (by decide +kernel) (by decide +kernel)
theorem se_X5_comeBack : Cond.selects RX5 yX5_comeBack yX5_comeBack ∈ gw := gw_of (i := 12) (by decide +kernel) (by decide +kernel)
theorem co_X5_stageUp : Cond.code yX5_stageUp cX5_stageUp 3 none ∈ gw := gw_of (i := 710) (by decide +kernel) (by decide +kernel)
theorem im_X5_stageUp : Cond.instanceMethod yX5_stageUp ∈ gw := gw_of (i := 709) (by decide +kernel) (by decide +kernel)
theorem se_X5_stageUp : Cond.selects RX5 yX5_stageUp yX5_stageUp ∈ gw := gw_of (i := 14) (by decide +kernel) (by decide +kernel)
theorem co_X5_stageDown : Cond.code yX5_stageDown cX5_stageDown 3 none ∈ gw := gw_of (i := 727) (by decide +kernel) (by decide +kernel)
theorem im_X5_stageDown : Cond.instanceMethod yX5_stageDown ∈ gw := gw_of (i := 726) (by decide +kernel) (by decide +kernel)
theorem se_X5_stageDown : Cond.selects RX5 yX5_stageDown yX5_stageDown ∈ gw := gw_of (i := 16) (by decide +kernel) (by decide +kernel)
theorem co_X5_gapIsOver : Cond.code yX5_gapIsOver cX5_gapIsOver 3 (some .boolean) ∈ gw := gw_of (i := 697) (by decide +kernel) (by decide +kernel)
theorem im_X5_gapIsOver : Cond.instanceMethod yX5_gapIsOver ∈ gw := gw_of (i := 696) (by decide +kernel) (by decide +kernel)
theorem se_X5_gapIsOver : Cond.selects RX5 yX5_gapIsOver yX5_gapIsOver ∈ gw := gw_of (i := 13) (by decide +kernel) (by decide +kernel)
theorem co_X5_mayStart : Cond.code yX5_mayStart cX5_mayStart 4 (some .boolean) ∈ gw := gw_of (i := 718) (by decide +kernel) (by decide +kernel)
theorem im_X5_mayStart : Cond.instanceMethod yX5_mayStart ∈ gw := gw_of (i := 716) (by decide +kernel) (by decide +kernel)
theorem se_X5_mayStart : Cond.selects RX5 yX5_mayStart yX5_mayStart ∈ gw := gw_of (i := 717) (by decide +kernel) (by decide +kernel)
theorem co_X5_nextToStart : Cond.code yX5_nextToStart cX5_nextToStart 4 (some .int) ∈ gw := gw_of (i := 714) (by decide +kernel) (by decide +kernel)
theorem im_X5_nextToStart : Cond.instanceMethod yX5_nextToStart ∈ gw := gw_of (i := 713) (by decide +kernel) (by decide +kernel)
theorem se_X5_nextToStart : Cond.selects RX5 yX5_nextToStart yX5_nextToStart ∈ gw := gw_of (i := 15) (by decide +kernel) (by decide +kernel)
theorem co_X5_nextToStop : Cond.code yX5_nextToStop cX5_nextToStop 4 (some .int) ∈ gw := gw_of (i := 731) (by decide +kernel) (by decide +kernel)
theorem im_X5_nextToStop : Cond.instanceMethod yX5_nextToStop ∈ gw := gw_of (i := 730) (by decide +kernel) (by decide +kernel)
theorem se_X5_nextToStop : Cond.selects RX5 yX5_nextToStop yX5_nextToStop ∈ gw := gw_of (i := 17) (by decide +kernel) (by decide +kernel)
theorem co_X5_fall : Cond.code yX5_fall cX5_fall 5 none ∈ gw := gw_of (i := 580) (by decide +kernel) (by decide +kernel)
theorem im_X5_fall : Cond.instanceMethod yX5_fall ∈ gw := gw_of (i := 578) (by decide +kernel) (by decide +kernel)
theorem se_X5_fall : Cond.selects RX5 yX5_fall yX5_fall ∈ gw := gw_of (i := 579) (by decide +kernel) (by decide +kernel)
theorem co_X5_greatestOf : Cond.code yX5_greatestOf cX5_greatestOf 5 (some .int) ∈ gw := gw_of (i := 585) (by decide +kernel) (by decide +kernel)
theorem im_X5_greatestOf : Cond.instanceMethod yX5_greatestOf ∈ gw := gw_of (i := 584) (by decide +kernel) (by decide +kernel)
theorem se_X5_greatestOf : Cond.selects RX5 yX5_greatestOf yX5_greatestOf ∈ gw := gw_of (i := 6) (by decide +kernel) (by decide +kernel)
theorem co_X6_init : Cond.code yX6_init cX6_init 1 none ∈ gw := gw_of (i := 181) (by decide +kernel) (by decide +kernel)
theorem im_X6_init : Cond.instanceMethod yX6_init ∈ gw := gw_of (i := 180) (by decide +kernel) (by decide +kernel)
theorem co_X6_reset : Cond.code yX6_reset cX6_reset 1 none ∈ gw := gw_of (i := 186) (by decide +kernel) (by decide +kernel)
theorem im_X6_reset : Cond.instanceMethod yX6_reset ∈ gw := gw_of (i := 184) (by decide +kernel) (by decide +kernel)
theorem se_X6_reset : Cond.selects RX6 yX6_reset yX6_reset ∈ gw := gw_of (i := 185) (by decide +kernel) (by decide +kernel)
theorem co_X6_copyFrom : Cond.code yX6_copyFrom cX6_copyFrom 2 none ∈ gw := gw_of (i := 541) (by decide +kernel) (by decide +kernel)
theorem im_X6_copyFrom : Cond.instanceMethod yX6_copyFrom ∈ gw := gw_of (i := 539) (by decide +kernel) (by decide +kernel)
theorem se_X6_copyFrom : Cond.selects RX6 yX6_copyFrom yX6_copyFrom ∈ gw := gw_of (i := 540) (by decide +kernel) (by decide +kernel)
theorem co_X6_running : Cond.code yX6_running cX6_running 1 (some .int) ∈ gw := gw_of (i := 558) (by decide +kernel) (by decide +kernel)
theorem im_X6_running : Cond.instanceMethod yX6_running ∈ gw := gw_of (i := 556) (by decide +kernel) (by decide +kernel)
theorem se_X6_running : Cond.selects RX6 yX6_running yX6_running ∈ gw := gw_of (i := 557) (by decide +kernel) (by decide +kernel)
theorem co_X6_lift : Cond.code yX6_lift cX6_lift 1 (some .int) ∈ gw := gw_of (i := 631) (by decide +kernel) (by decide +kernel)
theorem im_X6_lift : Cond.instanceMethod yX6_lift ∈ gw := gw_of (i := 629) (by decide +kernel) (by decide +kernel)
theorem se_X6_lift : Cond.selects RX6 yX6_lift yX6_lift ∈ gw := gw_of (i := 630) (by decide +kernel) (by decide +kernel)
theorem co_X6_startedSoFar : Cond.code yX6_startedSoFar cX6_startedSoFar 3 (some .int) ∈ gw := gw_of (i := 599) (by decide +kernel) (by decide +kernel)
theorem im_X6_startedSoFar : Cond.instanceMethod yX6_startedSoFar ∈ gw := gw_of (i := 597) (by decide +kernel) (by decide +kernel)
theorem se_X6_startedSoFar : Cond.selects RX6 yX6_startedSoFar yX6_startedSoFar ∈ gw := gw_of (i := 598) (by decide +kernel) (by decide +kernel)
theorem co_X6_start : Cond.code yX6_start cX6_start 2 none ∈ gw := gw_of (i := 706) (by decide +kernel) (by decide +kernel)
theorem im_X6_start : Cond.instanceMethod yX6_start ∈ gw := gw_of (i := 704) (by decide +kernel) (by decide +kernel)
theorem se_X6_start : Cond.selects RX6 yX6_start yX6_start ∈ gw := gw_of (i := 705) (by decide +kernel) (by decide +kernel)
theorem co_X6_stop : Cond.code yX6_stop cX6_stop 2 none ∈ gw := gw_of (i := 554) (by decide +kernel) (by decide +kernel)
theorem im_X6_stop : Cond.instanceMethod yX6_stop ∈ gw := gw_of (i := 552) (by decide +kernel) (by decide +kernel)
theorem se_X6_stop : Cond.selects RX6 yX6_stop yX6_stop ∈ gw := gw_of (i := 553) (by decide +kernel) (by decide +kernel)
theorem co_X6_ticksSinceStart : Cond.code yX6_ticksSinceStart cX6_ticksSinceStart 3 (some .int) ∈ gw := gw_of (i := 679) (by decide +kernel) (by decide +kernel)
theorem im_X6_ticksSinceStart : Cond.instanceMethod yX6_ticksSinceStart ∈ gw := gw_of (i := 677) (by decide +kernel) (by decide +kernel)
theorem se_X6_ticksSinceStart : Cond.selects RX6 yX6_ticksSinceStart yX6_ticksSinceStart ∈ gw := gw_of (i := 678) (by decide +kernel) (by decide +kernel)
theorem co_X6_ticksSinceStop : Cond.code yX6_ticksSinceStop cX6_ticksSinceStop 3 (some .int) ∈ gw := gw_of (i := 722) (by decide +kernel) (by decide +kernel)
theorem im_X6_ticksSinceStop : Cond.instanceMethod yX6_ticksSinceStop ∈ gw := gw_of (i := 720) (by decide +kernel) (by decide +kernel)
theorem se_X6_ticksSinceStop : Cond.selects RX6 yX6_ticksSinceStop yX6_ticksSinceStop ∈ gw := gw_of (i := 721) (by decide +kernel) (by decide +kernel)
theorem co_X6_startBack : Cond.code yX6_startBack cX6_startBack 3 (some .int) ∈ gw := gw_of (i := 683) (by decide +kernel) (by decide +kernel)
theorem im_X6_startBack : Cond.instanceMethod yX6_startBack ∈ gw := gw_of (i := 681) (by decide +kernel) (by decide +kernel)
theorem se_X6_startBack : Cond.selects RX6 yX6_startBack yX6_startBack ∈ gw := gw_of (i := 682) (by decide +kernel) (by decide +kernel)
theorem co_X6_ringPlace : Cond.code yX6_ringPlace cX6_ringPlace 2 (some .int) ∈ gw := gw_of (i := 686) (by decide +kernel) (by decide +kernel)
theorem sm_X6_ringPlace : Cond.static yX6_ringPlace ∈ gw := gw_of (i := 685) (by decide +kernel) (by decide +kernel)
theorem co_X6_putOnList : Cond.code yX6_putOnList cX6_putOnList 2 none ∈ gw := gw_of (i := 591) (by decide +kernel) (by decide +kernel)
theorem im_X6_putOnList : Cond.instanceMethod yX6_putOnList ∈ gw := gw_of (i := 589) (by decide +kernel) (by decide +kernel)
theorem se_X6_putOnList : Cond.selects RX6 yX6_putOnList yX6_putOnList ∈ gw := gw_of (i := 590) (by decide +kernel) (by decide +kernel)
theorem co_X6_firstOfList : Cond.code yX6_firstOfList cX6_firstOfList 1 (some .int) ∈ gw := gw_of (i := 701) (by decide +kernel) (by decide +kernel)
theorem im_X6_firstOfList : Cond.instanceMethod yX6_firstOfList ∈ gw := gw_of (i := 699) (by decide +kernel) (by decide +kernel)
theorem se_X6_firstOfList : Cond.selects RX6 yX6_firstOfList yX6_firstOfList ∈ gw := gw_of (i := 700) (by decide +kernel) (by decide +kernel)
theorem co_X6_takeOffList : Cond.code yX6_takeOffList cX6_takeOffList 4 none ∈ gw := gw_of (i := 565) (by decide +kernel) (by decide +kernel)
theorem im_X6_takeOffList : Cond.instanceMethod yX6_takeOffList ∈ gw := gw_of (i := 563) (by decide +kernel) (by decide +kernel)
theorem se_X6_takeOffList : Cond.selects RX6 yX6_takeOffList yX6_takeOffList ∈ gw := gw_of (i := 564) (by decide +kernel) (by decide +kernel)
theorem co_X6_placeInList : Cond.code yX6_placeInList cX6_placeInList 3 (some .int) ∈ gw := gw_of (i := 757) (by decide +kernel) (by decide +kernel)
theorem im_X6_placeInList : Cond.instanceMethod yX6_placeInList ∈ gw := gw_of (i := 755) (by decide +kernel) (by decide +kernel)
theorem se_X6_placeInList : Cond.selects RX6 yX6_placeInList yX6_placeInList ∈ gw := gw_of (i := 756) (by decide +kernel) (by decide +kernel)
theorem co_X7_init : Cond.code yX7_init cX7_init 2 none ∈ gw := gw_of (i := 81) (by decide +kernel) (by decide +kernel)
theorem im_X7_init : Cond.instanceMethod yX7_init ∈ gw := gw_of (i := 80) (by decide +kernel) (by decide +kernel)
theorem co_X7_write : Cond.code yX7_write cX7_write 2 (some .int) ∈ gw := gw_of (i := 492) (by decide +kernel) (by decide +kernel)
theorem im_X7_write : Cond.instanceMethod yX7_write ∈ gw := gw_of (i := 490) (by decide +kernel) (by decide +kernel)
theorem se_X7_write : Cond.selects RX7 yX7_write yX7_write ∈ gw := gw_of (i := 491) (by decide +kernel) (by decide +kernel)
theorem co_X7_wipe : Cond.code yX7_wipe cX7_wipe 2 (some .int) ∈ gw := gw_of (i := 496) (by decide +kernel) (by decide +kernel)
theorem im_X7_wipe : Cond.instanceMethod yX7_wipe ∈ gw := gw_of (i := 494) (by decide +kernel) (by decide +kernel)
theorem se_X7_wipe : Cond.selects RX7 yX7_wipe yX7_wipe ∈ gw := gw_of (i := 495) (by decide +kernel) (by decide +kernel)
theorem co_X7_fault : Cond.code yX7_fault cX7_fault 1 (some .int) ∈ gw := gw_of (i := 500) (by decide +kernel) (by decide +kernel)
theorem im_X7_fault : Cond.instanceMethod yX7_fault ∈ gw := gw_of (i := 498) (by decide +kernel) (by decide +kernel)
theorem se_X7_fault : Cond.selects RX7 yX7_fault yX7_fault ∈ gw := gw_of (i := 499) (by decide +kernel) (by decide +kernel)
theorem co_X7_lay : Cond.code yX7_lay cX7_lay 1 (some .int) ∈ gw := gw_of (i := 508) (by decide +kernel) (by decide +kernel)
theorem im_X7_lay : Cond.instanceMethod yX7_lay ∈ gw := gw_of (i := 506) (by decide +kernel) (by decide +kernel)
theorem se_X7_lay : Cond.selects RX7 yX7_lay yX7_lay ∈ gw := gw_of (i := 507) (by decide +kernel) (by decide +kernel)
theorem co_X7_tell : Cond.code yX7_tell cX7_tell 4 (some .int) ∈ gw := gw_of (i := 529) (by decide +kernel) (by decide +kernel)
theorem im_X7_tell : Cond.instanceMethod yX7_tell ∈ gw := gw_of (i := 527) (by decide +kernel) (by decide +kernel)
theorem se_X7_tell : Cond.selects RX7 yX7_tell yX7_tell ∈ gw := gw_of (i := 528) (by decide +kernel) (by decide +kernel)
theorem co_X7_lock : Cond.code yX7_lock cX7_lock 4 (some .int) ∈ gw := gw_of (i := 546) (by decide +kernel) (by decide +kernel)
theorem im_X7_lock : Cond.instanceMethod yX7_lock ∈ gw := gw_of (i := 544) (by decide +kernel) (by decide +kernel)
theorem se_X7_lock : Cond.selects RX7 yX7_lock yX7_lock ∈ gw := gw_of (i := 545) (by decide +kernel) (by decide +kernel)
theorem co_X7_dip : Cond.code yX7_dip cX7_dip 2 (some .int) ∈ gw := gw_of (i := 575) (by decide +kernel) (by decide +kernel)
theorem im_X7_dip : Cond.instanceMethod yX7_dip ∈ gw := gw_of (i := 573) (by decide +kernel) (by decide +kernel)
theorem se_X7_dip : Cond.selects RX7 yX7_dip yX7_dip ∈ gw := gw_of (i := 574) (by decide +kernel) (by decide +kernel)
theorem co_X7_tick : Cond.code yX7_tick cX7_tick 4 (some .int) ∈ gw := gw_of (i := 595) (by decide +kernel) (by decide +kernel)
theorem im_X7_tick : Cond.instanceMethod yX7_tick ∈ gw := gw_of (i := 593) (by decide +kernel) (by decide +kernel)
theorem se_X7_tick : Cond.selects RX7 yX7_tick yX7_tick ∈ gw := gw_of (i := 594) (by decide +kernel) (by decide +kernel)
theorem co_X7_undo : Cond.code yX7_undo cX7_undo 1 (some .int) ∈ gw := gw_of (i := 735) (by decide +kernel) (by decide +kernel)
theorem im_X7_undo : Cond.instanceMethod yX7_undo ∈ gw := gw_of (i := 733) (by decide +kernel) (by decide +kernel)
theorem se_X7_undo : Cond.selects RX7 yX7_undo yX7_undo ∈ gw := gw_of (i := 734) (by decide +kernel) (by decide +kernel)
theorem co_X7_machine : Cond.code yX7_machine cX7_machine 3 (some .int) ∈ gw := gw_of (i := 743) (by decide +kernel) (by decide +kernel)
theorem im_X7_machine : Cond.instanceMethod yX7_machine ∈ gw := gw_of (i := 741) (by decide +kernel) (by decide +kernel)
theorem se_X7_machine : Cond.selects RX7 yX7_machine yX7_machine ∈ gw := gw_of (i := 742) (by decide +kernel) (by decide +kernel)
theorem co_X7_power : Cond.code yX7_power cX7_power 4 (some .int) ∈ gw := gw_of (i := 761) (by decide +kernel) (by decide +kernel)
theorem im_X7_power : Cond.instanceMethod yX7_power ∈ gw := gw_of (i := 759) (by decide +kernel) (by decide +kernel)
theorem se_X7_power : Cond.selects RX7 yX7_power yX7_power ∈ gw := gw_of (i := 760) (by decide +kernel) (by decide +kernel)
theorem co_X7_share : Cond.code yX7_share cX7_share 4 (some .int) ∈ gw := gw_of (i := 766) (by decide +kernel) (by decide +kernel)
theorem im_X7_share : Cond.instanceMethod yX7_share ∈ gw := gw_of (i := 764) (by decide +kernel) (by decide +kernel)
theorem se_X7_share : Cond.selects RX7 yX7_share yX7_share ∈ gw := gw_of (i := 765) (by decide +kernel) (by decide +kernel)
theorem co_X7_best : Cond.code yX7_best cX7_best 3 (some .int) ∈ gw := gw_of (i := 781) (by decide +kernel) (by decide +kernel)
theorem im_X7_best : Cond.instanceMethod yX7_best ∈ gw := gw_of (i := 779) (by decide +kernel) (by decide +kernel)
theorem se_X7_best : Cond.selects RX7 yX7_best yX7_best ∈ gw := gw_of (i := 780) (by decide +kernel) (by decide +kernel)
theorem co_X7_now : Cond.code yX7_now cX7_now 4 (some .int) ∈ gw := gw_of (i := 819) (by decide +kernel) (by decide +kernel)
theorem im_X7_now : Cond.instanceMethod yX7_now ∈ gw := gw_of (i := 817) (by decide +kernel) (by decide +kernel)
theorem se_X7_now : Cond.selects RX7 yX7_now yX7_now ∈ gw := gw_of (i := 818) (by decide +kernel) (by decide +kernel)
theorem co_X7_ahead : Cond.code yX7_ahead cX7_ahead 5 (some .int) ∈ gw := gw_of (i := 834) (by decide +kernel) (by decide +kernel)
theorem im_X7_ahead : Cond.instanceMethod yX7_ahead ∈ gw := gw_of (i := 832) (by decide +kernel) (by decide +kernel)
theorem se_X7_ahead : Cond.selects RX7 yX7_ahead yX7_ahead ∈ gw := gw_of (i := 833) (by decide +kernel) (by decide +kernel)
theorem co_X7_count : Cond.code yX7_count cX7_count 2 (some .int) ∈ gw := gw_of (i := 839) (by decide +kernel) (by decide +kernel)
theorem im_X7_count : Cond.instanceMethod yX7_count ∈ gw := gw_of (i := 837) (by decide +kernel) (by decide +kernel)
theorem se_X7_count : Cond.selects RX7 yX7_count yX7_count ∈ gw := gw_of (i := 838) (by decide +kernel) (by decide +kernel)
theorem co_X7_isMachine : Cond.code yX7_isMachine cX7_isMachine 2 (some .boolean) ∈ gw := gw_of (i := 550) (by decide +kernel) (by decide +kernel)
theorem im_X7_isMachine : Cond.instanceMethod yX7_isMachine ∈ gw := gw_of (i := 549) (by decide +kernel) (by decide +kernel)
theorem se_X7_isMachine : Cond.selects RX7 yX7_isMachine yX7_isMachine ∈ gw := gw_of (i := 5) (by decide +kernel) (by decide +kernel)
theorem co_X7_isLoad : Cond.code yX7_isLoad cX7_isLoad 1 (some .boolean) ∈ gw := gw_of (i := 773) (by decide +kernel) (by decide +kernel)
theorem sm_X7_isLoad : Cond.static yX7_isLoad ∈ gw := gw_of (i := 772) (by decide +kernel) (by decide +kernel)
theorem co_X7_bitOf : Cond.code yX7_bitOf cX7_bitOf 2 (some .int) ∈ gw := gw_of (i := 561) (by decide +kernel) (by decide +kernel)
theorem sm_X7_bitOf : Cond.static yX7_bitOf ∈ gw := gw_of (i := 560) (by decide +kernel) (by decide +kernel)
theorem co_X7_aboveBest : Cond.code yX7_aboveBest cX7_aboveBest 2 (some .int) ∈ gw := gw_of (i := 830) (by decide +kernel) (by decide +kernel)
theorem im_X7_aboveBest : Cond.instanceMethod yX7_aboveBest ∈ gw := gw_of (i := 829) (by decide +kernel) (by decide +kernel)
theorem se_X7_aboveBest : Cond.selects RX7 yX7_aboveBest yX7_aboveBest ∈ gw := gw_of (i := 21) (by decide +kernel) (by decide +kernel)
theorem co_X8_init : Cond.code yX8_init cX8_init 1 none ∈ gw := gw_of (i := 844) (by decide +kernel) (by decide +kernel)
theorem im_X8_init : Cond.instanceMethod yX8_init ∈ gw := gw_of (i := 843) (by decide +kernel) (by decide +kernel)
theorem co_X8_in : Cond.code yX8_in cX8_in 3 (some .boolean) ∈ gw := gw_of (i := 910) (by decide +kernel) (by decide +kernel)
theorem sm_X8_in : Cond.static yX8_in ∈ gw := gw_of (i := 909) (by decide +kernel) (by decide +kernel)
theorem co_X8_beginRead : Cond.code yX8_beginRead cX8_beginRead 2 none ∈ gw := gw_of (i := 849) (by decide +kernel) (by decide +kernel)
theorem im_X8_beginRead : Cond.instanceMethod yX8_beginRead ∈ gw := gw_of (i := 848) (by decide +kernel) (by decide +kernel)
theorem se_X8_beginRead : Cond.selects RX8 yX8_beginRead yX8_beginRead ∈ gw := gw_of (i := 22) (by decide +kernel) (by decide +kernel)
theorem co_X8_putMachine : Cond.code yX8_putMachine cX8_putMachine 8 none ∈ gw := gw_of (i := 853) (by decide +kernel) (by decide +kernel)
theorem im_X8_putMachine : Cond.instanceMethod yX8_putMachine ∈ gw := gw_of (i := 852) (by decide +kernel) (by decide +kernel)
theorem se_X8_putMachine : Cond.selects RX8 yX8_putMachine yX8_putMachine ∈ gw := gw_of (i := 23) (by decide +kernel) (by decide +kernel)
theorem co_X8_takeRead : Cond.code yX8_takeRead cX8_takeRead 3 none ∈ gw := gw_of (i := 857) (by decide +kernel) (by decide +kernel)
theorem im_X8_takeRead : Cond.instanceMethod yX8_takeRead ∈ gw := gw_of (i := 856) (by decide +kernel) (by decide +kernel)
theorem se_X8_takeRead : Cond.selects RX8 yX8_takeRead yX8_takeRead ∈ gw := gw_of (i := 24) (by decide +kernel) (by decide +kernel)
theorem co_X8_isFigure : Cond.code yX8_isFigure cX8_isFigure 1 (some .boolean) ∈ gw := gw_of (i := 934) (by decide +kernel) (by decide +kernel)
theorem im_X8_isFigure : Cond.instanceMethod yX8_isFigure ∈ gw := gw_of (i := 933) (by decide +kernel) (by decide +kernel)
theorem se_X8_isFigure : Cond.selects RX8 yX8_isFigure yX8_isFigure ∈ gw := gw_of (i := 28) (by decide +kernel) (by decide +kernel)
theorem co_X8_readNumbers : Cond.code yX8_readNumbers cX8_readNumbers 5 (some .boolean) ∈ gw := gw_of (i := 930) (by decide +kernel) (by decide +kernel)
theorem im_X8_readNumbers : Cond.instanceMethod yX8_readNumbers ∈ gw := gw_of (i := 929) (by decide +kernel) (by decide +kernel)
theorem se_X8_readNumbers : Cond.selects RX8 yX8_readNumbers yX8_readNumbers ∈ gw := gw_of (i := 27) (by decide +kernel) (by decide +kernel)
theorem co_X8_isNumber : Cond.code yX8_isNumber cX8_isNumber 4 (some .boolean) ∈ gw := gw_of (i := 938) (by decide +kernel) (by decide +kernel)
theorem im_X8_isNumber : Cond.instanceMethod yX8_isNumber ∈ gw := gw_of (i := 937) (by decide +kernel) (by decide +kernel)
theorem se_X8_isNumber : Cond.selects RX8 yX8_isNumber yX8_isNumber ∈ gw := gw_of (i := 29) (by decide +kernel) (by decide +kernel)
theorem co_X8_readMachine : Cond.code yX8_readMachine cX8_readMachine 1 (some .boolean) ∈ gw := gw_of (i := 926) (by decide +kernel) (by decide +kernel)
theorem im_X8_readMachine : Cond.instanceMethod yX8_readMachine ∈ gw := gw_of (i := 925) (by decide +kernel) (by decide +kernel)
theorem se_X8_readMachine : Cond.selects RX8 yX8_readMachine yX8_readMachine ∈ gw := gw_of (i := 26) (by decide +kernel) (by decide +kernel)
theorem co_X8_readOther : Cond.code yX8_readOther cX8_readOther 6 (some .boolean) ∈ gw := gw_of (i := 942) (by decide +kernel) (by decide +kernel)
theorem im_X8_readOther : Cond.instanceMethod yX8_readOther ∈ gw := gw_of (i := 941) (by decide +kernel) (by decide +kernel)
theorem se_X8_readOther : Cond.selects RX8 yX8_readOther yX8_readOther ∈ gw := gw_of (i := 30) (by decide +kernel) (by decide +kernel)
theorem co_X8_readText : Cond.code yX8_readText cX8_readText 4 (some .int) ∈ gw := gw_of (i := 922) (by decide +kernel) (by decide +kernel)
theorem im_X8_readText : Cond.instanceMethod yX8_readText ∈ gw := gw_of (i := 921) (by decide +kernel) (by decide +kernel)
theorem se_X8_readText : Cond.selects RX8 yX8_readText yX8_readText ∈ gw := gw_of (i := 25) (by decide +kernel) (by decide +kernel)
theorem co_X8_write : Cond.code yX8_write cX8_write 2 (some .int) ∈ gw := gw_of (i := 907) (by decide +kernel) (by decide +kernel)
theorem im_X8_write : Cond.instanceMethod yX8_write ∈ gw := gw_of (i := 905) (by decide +kernel) (by decide +kernel)
theorem se_X8_write : Cond.selects RX8 yX8_write yX8_write ∈ gw := gw_of (i := 906) (by decide +kernel) (by decide +kernel)
theorem co_X8_wipe : Cond.code yX8_wipe cX8_wipe 2 (some .int) ∈ gw := gw_of (i := 914) (by decide +kernel) (by decide +kernel)
theorem im_X8_wipe : Cond.instanceMethod yX8_wipe ∈ gw := gw_of (i := 912) (by decide +kernel) (by decide +kernel)
theorem se_X8_wipe : Cond.selects RX8 yX8_wipe yX8_wipe ∈ gw := gw_of (i := 913) (by decide +kernel) (by decide +kernel)
theorem co_X8_fault : Cond.code yX8_fault cX8_fault 1 (some .int) ∈ gw := gw_of (i := 918) (by decide +kernel) (by decide +kernel)
theorem im_X8_fault : Cond.instanceMethod yX8_fault ∈ gw := gw_of (i := 916) (by decide +kernel) (by decide +kernel)
theorem se_X8_fault : Cond.selects RX8 yX8_fault yX8_fault ∈ gw := gw_of (i := 917) (by decide +kernel) (by decide +kernel)
theorem co_X8_lay : Cond.code yX8_lay cX8_lay 1 (some .int) ∈ gw := gw_of (i := 946) (by decide +kernel) (by decide +kernel)
theorem im_X8_lay : Cond.instanceMethod yX8_lay ∈ gw := gw_of (i := 944) (by decide +kernel) (by decide +kernel)
theorem se_X8_lay : Cond.selects RX8 yX8_lay yX8_lay ∈ gw := gw_of (i := 945) (by decide +kernel) (by decide +kernel)
theorem co_X8_leastOf : Cond.code yX8_leastOf cX8_leastOf 2 (some .int) ∈ gw := gw_of (i := 1036) (by decide +kernel) (by decide +kernel)
theorem im_X8_leastOf : Cond.instanceMethod yX8_leastOf ∈ gw := gw_of (i := 1035) (by decide +kernel) (by decide +kernel)
theorem se_X8_leastOf : Cond.selects RX8 yX8_leastOf yX8_leastOf ∈ gw := gw_of (i := 45) (by decide +kernel) (by decide +kernel)
theorem co_X8_mostOf : Cond.code yX8_mostOf cX8_mostOf 2 (some .int) ∈ gw := gw_of (i := 997) (by decide +kernel) (by decide +kernel)
theorem im_X8_mostOf : Cond.instanceMethod yX8_mostOf ∈ gw := gw_of (i := 996) (by decide +kernel) (by decide +kernel)
theorem se_X8_mostOf : Cond.selects RX8 yX8_mostOf yX8_mostOf ∈ gw := gw_of (i := 38) (by decide +kernel) (by decide +kernel)
theorem co_X8_powerOf : Cond.code yX8_powerOf cX8_powerOf 5 (some .int) ∈ gw := gw_of (i := 1040) (by decide +kernel) (by decide +kernel)
theorem im_X8_powerOf : Cond.instanceMethod yX8_powerOf ∈ gw := gw_of (i := 1039) (by decide +kernel) (by decide +kernel)
theorem se_X8_powerOf : Cond.selects RX8 yX8_powerOf yX8_powerOf ∈ gw := gw_of (i := 46) (by decide +kernel) (by decide +kernel)
theorem co_X8_lift : Cond.code yX8_lift cX8_lift 1 (some .int) ∈ gw := gw_of (i := 1021) (by decide +kernel) (by decide +kernel)
theorem im_X8_lift : Cond.instanceMethod yX8_lift ∈ gw := gw_of (i := 1020) (by decide +kernel) (by decide +kernel)
theorem se_X8_lift : Cond.selects RX8 yX8_lift yX8_lift ∈ gw := gw_of (i := 43) (by decide +kernel) (by decide +kernel)
theorem co_X8_has : Cond.code yX8_has cX8_has 2 (some .boolean) ∈ gw := gw_of (i := 1028) (by decide +kernel) (by decide +kernel)
theorem sm_X8_has : Cond.static yX8_has ∈ gw := gw_of (i := 1027) (by decide +kernel) (by decide +kernel)
theorem co_X8_sumOf : Cond.code yX8_sumOf cX8_sumOf 5 (some .int) ∈ gw := gw_of (i := 1048) (by decide +kernel) (by decide +kernel)
theorem im_X8_sumOf : Cond.instanceMethod yX8_sumOf ∈ gw := gw_of (i := 1047) (by decide +kernel) (by decide +kernel)
theorem se_X8_sumOf : Cond.selects RX8 yX8_sumOf yX8_sumOf ∈ gw := gw_of (i := 48) (by decide +kernel) (by decide +kernel)
theorem co_X8_can : Cond.code yX8_can cX8_can 3 (some .boolean) ∈ gw := gw_of (i := 1044) (by decide +kernel) (by decide +kernel)
theorem im_X8_can : Cond.instanceMethod yX8_can ∈ gw := gw_of (i := 1043) (by decide +kernel) (by decide +kernel)
theorem se_X8_can : Cond.selects RX8 yX8_can yX8_can ∈ gw := gw_of (i := 47) (by decide +kernel) (by decide +kernel)
theorem co_X8_lowest : Cond.code yX8_lowest cX8_lowest 2 (some .int) ∈ gw := gw_of (i := 1025) (by decide +kernel) (by decide +kernel)
theorem sm_X8_lowest : Cond.static yX8_lowest ∈ gw := gw_of (i := 1024) (by decide +kernel) (by decide +kernel)
theorem co_X8_leastBy : Cond.code yX8_leastBy cX8_leastBy 9 (some .int) ∈ gw := gw_of (i := 1032) (by decide +kernel) (by decide +kernel)
theorem im_X8_leastBy : Cond.instanceMethod yX8_leastBy ∈ gw := gw_of (i := 1031) (by decide +kernel) (by decide +kernel)
theorem se_X8_leastBy : Cond.selects RX8 yX8_leastBy yX8_leastBy ∈ gw := gw_of (i := 44) (by decide +kernel) (by decide +kernel)
theorem co_X8_layTable : Cond.code yX8_layTable cX8_layTable 5 none ∈ gw := gw_of (i := 1017) (by decide +kernel) (by decide +kernel)
theorem im_X8_layTable : Cond.instanceMethod yX8_layTable ∈ gw := gw_of (i := 1016) (by decide +kernel) (by decide +kernel)
theorem se_X8_layTable : Cond.selects RX8 yX8_layTable yX8_layTable ∈ gw := gw_of (i := 42) (by decide +kernel) (by decide +kernel)
theorem co_X8_leastPower : Cond.code yX8_leastPower cX8_leastPower 3 (some .int) ∈ gw := gw_of (i := 1056) (by decide +kernel) (by decide +kernel)
theorem im_X8_leastPower : Cond.instanceMethod yX8_leastPower ∈ gw := gw_of (i := 1055) (by decide +kernel) (by decide +kernel)
theorem se_X8_leastPower : Cond.selects RX8 yX8_leastPower yX8_leastPower ∈ gw := gw_of (i := 50) (by decide +kernel) (by decide +kernel)
theorem co_X8_layShare : Cond.code yX8_layShare cX8_layShare 8 none ∈ gw := gw_of (i := 1052) (by decide +kernel) (by decide +kernel)
theorem im_X8_layShare : Cond.instanceMethod yX8_layShare ∈ gw := gw_of (i := 1051) (by decide +kernel) (by decide +kernel)
theorem se_X8_layShare : Cond.selects RX8 yX8_layShare yX8_layShare ∈ gw := gw_of (i := 49) (by decide +kernel) (by decide +kernel)
theorem co_X8_lockedOnes : Cond.code yX8_lockedOnes cX8_lockedOnes 3 (some .int) ∈ gw := gw_of (i := 982) (by decide +kernel) (by decide +kernel)
theorem im_X8_lockedOnes : Cond.instanceMethod yX8_lockedOnes ∈ gw := gw_of (i := 981) (by decide +kernel) (by decide +kernel)
theorem se_X8_lockedOnes : Cond.selects RX8 yX8_lockedOnes yX8_lockedOnes ∈ gw := gw_of (i := 36) (by decide +kernel) (by decide +kernel)
theorem co_X8_ones : Cond.code yX8_ones cX8_ones 3 (some .int) ∈ gw := gw_of (i := 985) (by decide +kernel) (by decide +kernel)
theorem sm_X8_ones : Cond.static yX8_ones ∈ gw := gw_of (i := 984) (by decide +kernel) (by decide +kernel)
theorem co_X8_findBest : Cond.code yX8_findBest cX8_findBest 7 (some .int) ∈ gw := gw_of (i := 1100) (by decide +kernel) (by decide +kernel)
theorem im_X8_findBest : Cond.instanceMethod yX8_findBest ∈ gw := gw_of (i := 1099) (by decide +kernel) (by decide +kernel)
theorem se_X8_findBest : Cond.selects RX8 yX8_findBest yX8_findBest ∈ gw := gw_of (i := 57) (by decide +kernel) (by decide +kernel)
theorem co_X8_own : Cond.code yX8_own cX8_own 3 (some .int) ∈ gw := gw_of (i := 970) (by decide +kernel) (by decide +kernel)
theorem im_X8_own : Cond.instanceMethod yX8_own ∈ gw := gw_of (i := 969) (by decide +kernel) (by decide +kernel)
theorem se_X8_own : Cond.selects RX8 yX8_own yX8_own ∈ gw := gw_of (i := 33) (by decide +kernel) (by decide +kernel)
theorem co_X8_standing : Cond.code yX8_standing cX8_standing 4 (some .int) ∈ gw := gw_of (i := 993) (by decide +kernel) (by decide +kernel)
theorem im_X8_standing : Cond.instanceMethod yX8_standing ∈ gw := gw_of (i := 992) (by decide +kernel) (by decide +kernel)
theorem se_X8_standing : Cond.selects RX8 yX8_standing yX8_standing ∈ gw := gw_of (i := 37) (by decide +kernel) (by decide +kernel)
theorem co_X8_made : Cond.code yX8_made cX8_made 5 (some .int) ∈ gw := gw_of (i := 1013) (by decide +kernel) (by decide +kernel)
theorem im_X8_made : Cond.instanceMethod yX8_made ∈ gw := gw_of (i := 1012) (by decide +kernel) (by decide +kernel)
theorem se_X8_made : Cond.selects RX8 yX8_made yX8_made ∈ gw := gw_of (i := 41) (by decide +kernel) (by decide +kernel)
theorem co_X8_powerNow : Cond.code yX8_powerNow cX8_powerNow 3 (some .int) ∈ gw := gw_of (i := 1009) (by decide +kernel) (by decide +kernel)
theorem im_X8_powerNow : Cond.instanceMethod yX8_powerNow ∈ gw := gw_of (i := 1008) (by decide +kernel) (by decide +kernel)
theorem se_X8_powerNow : Cond.selects RX8 yX8_powerNow yX8_powerNow ∈ gw := gw_of (i := 40) (by decide +kernel) (by decide +kernel)
theorem co_X8_isGapOver : Cond.code yX8_isGapOver cX8_isGapOver 2 (some .boolean) ∈ gw := gw_of (i := 1060) (by decide +kernel) (by decide +kernel)
theorem im_X8_isGapOver : Cond.instanceMethod yX8_isGapOver ∈ gw := gw_of (i := 1059) (by decide +kernel) (by decide +kernel)
theorem se_X8_isGapOver : Cond.selects RX8 yX8_isGapOver yX8_isGapOver ∈ gw := gw_of (i := 51) (by decide +kernel) (by decide +kernel)
theorem co_X8_mayStart : Cond.code yX8_mayStart cX8_mayStart 5 (some .boolean) ∈ gw := gw_of (i := 1076) (by decide +kernel) (by decide +kernel)
theorem im_X8_mayStart : Cond.instanceMethod yX8_mayStart ∈ gw := gw_of (i := 1075) (by decide +kernel) (by decide +kernel)
theorem se_X8_mayStart : Cond.selects RX8 yX8_mayStart yX8_mayStart ∈ gw := gw_of (i := 55) (by decide +kernel) (by decide +kernel)
theorem co_X8_start : Cond.code yX8_start cX8_start 5 none ∈ gw := gw_of (i := 1064) (by decide +kernel) (by decide +kernel)
theorem im_X8_start : Cond.instanceMethod yX8_start ∈ gw := gw_of (i := 1063) (by decide +kernel) (by decide +kernel)
theorem se_X8_start : Cond.selects RX8 yX8_start yX8_start ∈ gw := gw_of (i := 52) (by decide +kernel) (by decide +kernel)
theorem co_X8_stop : Cond.code yX8_stop cX8_stop 3 none ∈ gw := gw_of (i := 978) (by decide +kernel) (by decide +kernel)
theorem im_X8_stop : Cond.instanceMethod yX8_stop ∈ gw := gw_of (i := 977) (by decide +kernel) (by decide +kernel)
theorem se_X8_stop : Cond.selects RX8 yX8_stop yX8_stop ∈ gw := gw_of (i := 35) (by decide +kernel) (by decide +kernel)
theorem co_X8_starter : Cond.code yX8_starter cX8_starter 4 (some .int) ∈ gw := gw_of (i := 1072) (by decide +kernel) (by decide +kernel)
theorem im_X8_starter : Cond.instanceMethod yX8_starter ∈ gw := gw_of (i := 1071) (by decide +kernel) (by decide +kernel)
theorem se_X8_starter : Cond.selects RX8 yX8_starter yX8_starter ∈ gw := gw_of (i := 54) (by decide +kernel) (by decide +kernel)
theorem co_X8_stopper : Cond.code yX8_stopper cX8_stopper 5 (some .int) ∈ gw := gw_of (i := 1068) (by decide +kernel) (by decide +kernel)
theorem im_X8_stopper : Cond.instanceMethod yX8_stopper ∈ gw := gw_of (i := 1067) (by decide +kernel) (by decide +kernel)
theorem se_X8_stopper : Cond.selects RX8 yX8_stopper yX8_stopper ∈ gw := gw_of (i := 53) (by decide +kernel) (by decide +kernel)
theorem co_X8_unlist : Cond.code yX8_unlist cX8_unlist 4 none ∈ gw := gw_of (i := 974) (by decide +kernel) (by decide +kernel)
theorem im_X8_unlist : Cond.instanceMethod yX8_unlist ∈ gw := gw_of (i := 973) (by decide +kernel) (by decide +kernel)
theorem se_X8_unlist : Cond.selects RX8 yX8_unlist yX8_unlist ∈ gw := gw_of (i := 34) (by decide +kernel) (by decide +kernel)
theorem co_X8_tickOnce : Cond.code yX8_tickOnce cX8_tickOnce 6 none ∈ gw := gw_of (i := 1005) (by decide +kernel) (by decide +kernel)
theorem im_X8_tickOnce : Cond.instanceMethod yX8_tickOnce ∈ gw := gw_of (i := 1004) (by decide +kernel) (by decide +kernel)
theorem se_X8_tickOnce : Cond.selects RX8 yX8_tickOnce yX8_tickOnce ∈ gw := gw_of (i := 39) (by decide +kernel) (by decide +kernel)
theorem co_X8_note : Cond.code yX8_note cX8_note 2 none ∈ gw := gw_of (i := 958) (by decide +kernel) (by decide +kernel)
theorem im_X8_note : Cond.instanceMethod yX8_note ∈ gw := gw_of (i := 957) (by decide +kernel) (by decide +kernel)
theorem se_X8_note : Cond.selects RX8 yX8_note yX8_note ∈ gw := gw_of (i := 31) (by decide +kernel) (by decide +kernel)
theorem co_X8_undo : Cond.code yX8_undo cX8_undo 2 (some .int) ∈ gw := gw_of (i := 950) (by decide +kernel) (by decide +kernel)
theorem im_X8_undo : Cond.instanceMethod yX8_undo ∈ gw := gw_of (i := 948) (by decide +kernel) (by decide +kernel)
theorem se_X8_undo : Cond.selects RX8 yX8_undo yX8_undo ∈ gw := gw_of (i := 949) (by decide +kernel) (by decide +kernel)
theorem co_X8_tell : Cond.code yX8_tell cX8_tell 5 (some .int) ∈ gw := gw_of (i := 954) (by decide +kernel) (by decide +kernel)
theorem im_X8_tell : Cond.instanceMethod yX8_tell ∈ gw := gw_of (i := 952) (by decide +kernel) (by decide +kernel)
theorem se_X8_tell : Cond.selects RX8 yX8_tell yX8_tell ∈ gw := gw_of (i := 953) (by decide +kernel) (by decide +kernel)
theorem co_X8_isMachine : Cond.code yX8_isMachine cX8_isMachine 2 (some .boolean) ∈ gw := gw_of (i := 966) (by decide +kernel) (by decide +kernel)
theorem im_X8_isMachine : Cond.instanceMethod yX8_isMachine ∈ gw := gw_of (i := 965) (by decide +kernel) (by decide +kernel)
theorem se_X8_isMachine : Cond.selects RX8 yX8_isMachine yX8_isMachine ∈ gw := gw_of (i := 32) (by decide +kernel) (by decide +kernel)
theorem co_X8_lock : Cond.code yX8_lock cX8_lock 3 (some .int) ∈ gw := gw_of (i := 962) (by decide +kernel) (by decide +kernel)
theorem im_X8_lock : Cond.instanceMethod yX8_lock ∈ gw := gw_of (i := 960) (by decide +kernel) (by decide +kernel)
theorem se_X8_lock : Cond.selects RX8 yX8_lock yX8_lock ∈ gw := gw_of (i := 961) (by decide +kernel) (by decide +kernel)
theorem co_X8_dip : Cond.code yX8_dip cX8_dip 4 (some .int) ∈ gw := gw_of (i := 989) (by decide +kernel) (by decide +kernel)
theorem im_X8_dip : Cond.instanceMethod yX8_dip ∈ gw := gw_of (i := 987) (by decide +kernel) (by decide +kernel)
theorem se_X8_dip : Cond.selects RX8 yX8_dip yX8_dip ∈ gw := gw_of (i := 988) (by decide +kernel) (by decide +kernel)
theorem co_X8_tick : Cond.code yX8_tick cX8_tick 4 (some .int) ∈ gw := gw_of (i := 1001) (by decide +kernel) (by decide +kernel)
theorem im_X8_tick : Cond.instanceMethod yX8_tick ∈ gw := gw_of (i := 999) (by decide +kernel) (by decide +kernel)
theorem se_X8_tick : Cond.selects RX8 yX8_tick yX8_tick ∈ gw := gw_of (i := 1000) (by decide +kernel) (by decide +kernel)
theorem co_X8_placeInList : Cond.code yX8_placeInList cX8_placeInList 4 (some .int) ∈ gw := gw_of (i := 1084) (by decide +kernel) (by decide +kernel)
theorem im_X8_placeInList : Cond.instanceMethod yX8_placeInList ∈ gw := gw_of (i := 1083) (by decide +kernel) (by decide +kernel)
theorem se_X8_placeInList : Cond.selects RX8 yX8_placeInList yX8_placeInList ∈ gw := gw_of (i := 56) (by decide +kernel) (by decide +kernel)
theorem co_X8_machine : Cond.code yX8_machine cX8_machine 3 (some .int) ∈ gw := gw_of (i := 1080) (by decide +kernel) (by decide +kernel)
theorem im_X8_machine : Cond.instanceMethod yX8_machine ∈ gw := gw_of (i := 1078) (by decide +kernel) (by decide +kernel)
theorem se_X8_machine : Cond.selects RX8 yX8_machine yX8_machine ∈ gw := gw_of (i := 1079) (by decide +kernel) (by decide +kernel)
theorem co_X8_power : Cond.code yX8_power cX8_power 4 (some .int) ∈ gw := gw_of (i := 1088) (by decide +kernel) (by decide +kernel)
theorem im_X8_power : Cond.instanceMethod yX8_power ∈ gw := gw_of (i := 1086) (by decide +kernel) (by decide +kernel)
theorem se_X8_power : Cond.selects RX8 yX8_power yX8_power ∈ gw := gw_of (i := 1087) (by decide +kernel) (by decide +kernel)
theorem co_X8_share : Cond.code yX8_share cX8_share 4 (some .int) ∈ gw := gw_of (i := 1092) (by decide +kernel) (by decide +kernel)
theorem im_X8_share : Cond.instanceMethod yX8_share ∈ gw := gw_of (i := 1090) (by decide +kernel) (by decide +kernel)
theorem se_X8_share : Cond.selects RX8 yX8_share yX8_share ∈ gw := gw_of (i := 1091) (by decide +kernel) (by decide +kernel)
theorem co_X8_best : Cond.code yX8_best cX8_best 4 (some .int) ∈ gw := gw_of (i := 1096) (by decide +kernel) (by decide +kernel)
theorem im_X8_best : Cond.instanceMethod yX8_best ∈ gw := gw_of (i := 1094) (by decide +kernel) (by decide +kernel)
theorem se_X8_best : Cond.selects RX8 yX8_best yX8_best ∈ gw := gw_of (i := 1095) (by decide +kernel) (by decide +kernel)
theorem co_X8_more : Cond.code yX8_more cX8_more 3 (some .int) ∈ gw := gw_of (i := 1108) (by decide +kernel) (by decide +kernel)
theorem im_X8_more : Cond.instanceMethod yX8_more ∈ gw := gw_of (i := 1107) (by decide +kernel) (by decide +kernel)
theorem se_X8_more : Cond.selects RX8 yX8_more yX8_more ∈ gw := gw_of (i := 58) (by decide +kernel) (by decide +kernel)
theorem co_X8_now : Cond.code yX8_now cX8_now 4 (some .int) ∈ gw := gw_of (i := 1104) (by decide +kernel) (by decide +kernel)
theorem im_X8_now : Cond.instanceMethod yX8_now ∈ gw := gw_of (i := 1102) (by decide +kernel) (by decide +kernel)
theorem se_X8_now : Cond.selects RX8 yX8_now yX8_now ∈ gw := gw_of (i := 1103) (by decide +kernel) (by decide +kernel)
theorem co_X8_ahead : Cond.code yX8_ahead cX8_ahead 8 (some .int) ∈ gw := gw_of (i := 1112) (by decide +kernel) (by decide +kernel)
theorem im_X8_ahead : Cond.instanceMethod yX8_ahead ∈ gw := gw_of (i := 1110) (by decide +kernel) (by decide +kernel)
theorem se_X8_ahead : Cond.selects RX8 yX8_ahead yX8_ahead ∈ gw := gw_of (i := 1111) (by decide +kernel) (by decide +kernel)
theorem co_X8_count : Cond.code yX8_count cX8_count 2 (some .int) ∈ gw := gw_of (i := 1116) (by decide +kernel) (by decide +kernel)
theorem im_X8_count : Cond.instanceMethod yX8_count ∈ gw := gw_of (i := 1114) (by decide +kernel) (by decide +kernel)
theorem se_X8_count : Cond.selects RX8 yX8_count yX8_count ∈ gw := gw_of (i := 1115) (by decide +kernel) (by decide +kernel)
theorem co_J6_bitCount_0f7a4 : Cond.code yJ6_bitCount_0f7a4 cJ6_bitCount_0f7a4 1 (some .int) ∈ gw := gw_of (i := 568) (by decide +kernel) (by decide +kernel)
theorem sm_J6_bitCount_0f7a4 : Cond.static yJ6_bitCount_0f7a4 ∈ gw := gw_of (i := 567) (by decide +kernel) (by decide +kernel)
theorem co_J9_floorMod_7cf53 : Cond.code yJ9_floorMod_7cf53 cJ9_floorMod_7cf53 3 (some .int) ∈ gw := gw_of (i := 689) (by decide +kernel) (by decide +kernel)
theorem sm_J9_floorMod_7cf53 : Cond.static yJ9_floorMod_7cf53 ∈ gw := gw_of (i := 688) (by decide +kernel) (by decide +kernel)
theorem co_J0_length_8abf5 : Cond.code yJ0_length_8abf5 cJ0_length_8abf5 1 (some .int) ∈ gw := gw_of (i := 364) (by decide +kernel) (by decide +kernel)
theorem im_J0_length_8abf5 : Cond.instanceMethod yJ0_length_8abf5 ∈ gw := gw_of (i := 362) (by decide +kernel) (by decide +kernel)
theorem se_J0_length_8abf5 : Cond.selects RJ0 yJ0_length_8abf5 yJ0_length_8abf5 ∈ gw := gw_of (i := 363) (by decide +kernel) (by decide +kernel)
theorem co_J0_charAt_5068e : Cond.code yJ0_charAt_5068e cJ0_charAt_5068e 2 (some .char) ∈ gw := gw_of (i := 374) (by decide +kernel) (by decide +kernel)
theorem im_J0_charAt_5068e : Cond.instanceMethod yJ0_charAt_5068e ∈ gw := gw_of (i := 372) (by decide +kernel) (by decide +kernel)
theorem se_J0_charAt_5068e : Cond.selects RJ0 yJ0_charAt_5068e yJ0_charAt_5068e ∈ gw := gw_of (i := 373) (by decide +kernel) (by decide +kernel)
theorem co_J0_coder_7d493 : Cond.code yJ0_coder_7d493 cJ0_coder_7d493 1 (some .byte) ∈ gw := gw_of (i := 368) (by decide +kernel) (by decide +kernel)
theorem im_J0_coder_7d493 : Cond.instanceMethod yJ0_coder_7d493 ∈ gw := gw_of (i := 366) (by decide +kernel) (by decide +kernel)
theorem se_J0_coder_7d493 : Cond.selects RJ0 yJ0_coder_7d493 yJ0_coder_7d493 ∈ gw := gw_of (i := 367) (by decide +kernel) (by decide +kernel)
theorem co_J0_isLatin1_aae02 : Cond.code yJ0_isLatin1_aae02 cJ0_isLatin1_aae02 1 (some .boolean) ∈ gw := gw_of (i := 378) (by decide +kernel) (by decide +kernel)
theorem im_J0_isLatin1_aae02 : Cond.instanceMethod yJ0_isLatin1_aae02 ∈ gw := gw_of (i := 376) (by decide +kernel) (by decide +kernel)
theorem se_J0_isLatin1_aae02 : Cond.selects RJ0 yJ0_isLatin1_aae02 yJ0_isLatin1_aae02 ∈ gw := gw_of (i := 377) (by decide +kernel) (by decide +kernel)
theorem co_J0_checkIndex_df160 : Cond.code yJ0_checkIndex_df160 cJ0_checkIndex_df160 2 none ∈ gw := gw_of (i := 384) (by decide +kernel) (by decide +kernel)
theorem sm_J0_checkIndex_df160 : Cond.static yJ0_checkIndex_df160 ∈ gw := gw_of (i := 383) (by decide +kernel) (by decide +kernel)
theorem co_J1_charAt_3b067 : Cond.code yJ1_charAt_3b067 cJ1_charAt_3b067 2 (some .char) ∈ gw := gw_of (i := 381) (by decide +kernel) (by decide +kernel)
theorem sm_J1_charAt_3b067 : Cond.static yJ1_charAt_3b067 ∈ gw := gw_of (i := 380) (by decide +kernel) (by decide +kernel)
theorem co_J7_fill_53178 : Cond.code yJ7_fill_53178 cJ7_fill_53178 4 none ∈ gw := gw_of (i := 195) (by decide +kernel) (by decide +kernel)
theorem sm_J7_fill_53178 : Cond.static yJ7_fill_53178 ∈ gw := gw_of (i := 194) (by decide +kernel) (by decide +kernel)
theorem co_J3_checkIndex_8e157 : Cond.code yJ3_checkIndex_8e157 cJ3_checkIndex_8e157 3 (some .int) ∈ gw := gw_of (i := 389) (by decide +kernel) (by decide +kernel)
theorem sm_J3_checkIndex_8e157 : Cond.static yJ3_checkIndex_8e157 ∈ gw := gw_of (i := 388) (by decide +kernel) (by decide +kernel)
theorem ini_ColdHouseLaw : Cond.initialized "ColdHouseLaw" ∈ gw := gw_of (i := 59) (by decide +kernel) (by decide +kernel)
theorem ini_X7 : Cond.initialized "ColdHouse" ∈ gw := gw_of (i := 60) (by decide +kernel) (by decide +kernel)
theorem ini_X3 : Cond.initialized "ColdHouse$Script" ∈ gw := gw_of (i := 61) (by decide +kernel) (by decide +kernel)
theorem ini_X2 : Cond.initialized "ColdHouse$Plant" ∈ gw := gw_of (i := 62) (by decide +kernel) (by decide +kernel)
theorem ini_X6 : Cond.initialized "ColdHouse$State" ∈ gw := gw_of (i := 63) (by decide +kernel) (by decide +kernel)
theorem ini_javalangSystem : Cond.initialized "java/lang/System" ∈ gw := gw_of (i := 64) (by decide +kernel) (by decide +kernel)
theorem ini_J7 : Cond.initialized "java/util/Arrays" ∈ gw := gw_of (i := 65) (by decide +kernel) (by decide +kernel)
theorem ini_X1 : Cond.initialized "ColdHouse$Past" ∈ gw := gw_of (i := 66) (by decide +kernel) (by decide +kernel)
theorem ini_X5 : Cond.initialized "ColdHouse$Staging" ∈ gw := gw_of (i := 67) (by decide +kernel) (by decide +kernel)
theorem ini_X4 : Cond.initialized "ColdHouse$Sharing" ∈ gw := gw_of (i := 68) (by decide +kernel) (by decide +kernel)
theorem ini_X0 : Cond.initialized "ColdHouse$BestSets" ∈ gw := gw_of (i := 69) (by decide +kernel) (by decide +kernel)
theorem ini_J0 : Cond.initialized "java/lang/String" ∈ gw := gw_of (i := 70) (by decide +kernel) (by decide +kernel)
theorem ini_J1 : Cond.initialized "java/lang/StringLatin1" ∈ gw := gw_of (i := 71) (by decide +kernel) (by decide +kernel)
theorem ini_J3 : Cond.initialized "jdk/internal/util/Preconditions" ∈ gw := gw_of (i := 72) (by decide +kernel) (by decide +kernel)
theorem ini_javalangStringUTF16 : Cond.initialized "java/lang/StringUTF16" ∈ gw := gw_of (i := 73) (by decide +kernel) (by decide +kernel)
theorem ini_J9 : Cond.initialized "java/lang/Math" ∈ gw := gw_of (i := 74) (by decide +kernel) (by decide +kernel)
theorem ini_X8 : Cond.initialized "ColdHouseModel" ∈ gw := gw_of (i := 75) (by decide +kernel) (by decide +kernel)
theorem ini_J6 : Cond.initialized "java/lang/Integer" ∈ gw := gw_of (i := 76) (by decide +kernel) (by decide +kernel)
theorem cl_L_7 : Cond.classLink "ColdHouseLaw" 7 "ColdHouse" ∈ gw := gw_of (i := 77) (by decide +kernel) (by decide +kernel)
theorem inst_X7 : Cond.instantiable "ColdHouse" 8 ∈ gw := gw_of (i := 78) (by decide +kernel) (by decide +kernel)
theorem cl_X7_7 : Cond.classLink "ColdHouse" 7 "ColdHouse$Script" ∈ gw := gw_of (i := 85) (by decide +kernel) (by decide +kernel)
theorem inst_X3 : Cond.instantiable "ColdHouse$Script" 3 ∈ gw := gw_of (i := 86) (by decide +kernel) (by decide +kernel)
theorem cl_X7_16 : Cond.classLink "ColdHouse" 16 "ColdHouse$Plant" ∈ gw := gw_of (i := 106) (by decide +kernel) (by decide +kernel)
theorem inst_X2 : Cond.instantiable "ColdHouse$Plant" 14 ∈ gw := gw_of (i := 107) (by decide +kernel) (by decide +kernel)
theorem cl_X7_23 : Cond.classLink "ColdHouse" 23 "ColdHouse$State" ∈ gw := gw_of (i := 177) (by decide +kernel) (by decide +kernel)
theorem inst_X6 : Cond.instantiable "ColdHouse$State" 15 ∈ gw := gw_of (i := 178) (by decide +kernel) (by decide +kernel)
theorem cst_X6_64 : Cond.constant "ColdHouse$State" 64 (-100000) ∈ gw := gw_of (i := 192) (by decide +kernel) (by decide +kernel)
theorem cl_X7_33 : Cond.classLink "ColdHouse" 33 "ColdHouse$Past" ∈ gw := gw_of (i := 264) (by decide +kernel) (by decide +kernel)
theorem inst_X1 : Cond.instantiable "ColdHouse$Past" 3 ∈ gw := gw_of (i := 265) (by decide +kernel) (by decide +kernel)
theorem cl_X1_9 : Cond.classLink "ColdHouse$Past" 9 "ColdHouse$State" ∈ gw := gw_of (i := 270) (by decide +kernel) (by decide +kernel)
theorem cl_X7_40 : Cond.classLink "ColdHouse" 40 "ColdHouse$Staging" ∈ gw := gw_of (i := 284) (by decide +kernel) (by decide +kernel)
theorem inst_X5 : Cond.instantiable "ColdHouse$Staging" 2 ∈ gw := gw_of (i := 285) (by decide +kernel) (by decide +kernel)
theorem cl_X5_15 : Cond.classLink "ColdHouse$Staging" 15 "ColdHouse$Sharing" ∈ gw := gw_of (i := 290) (by decide +kernel) (by decide +kernel)
theorem inst_X4 : Cond.instantiable "ColdHouse$Sharing" 9 ∈ gw := gw_of (i := 291) (by decide +kernel) (by decide +kernel)
theorem cl_X7_49 : Cond.classLink "ColdHouse" 49 "ColdHouse$Sharing" ∈ gw := gw_of (i := 333) (by decide +kernel) (by decide +kernel)
theorem cl_X7_56 : Cond.classLink "ColdHouse" 56 "ColdHouse$BestSets" ∈ gw := gw_of (i := 335) (by decide +kernel) (by decide +kernel)
theorem inst_X0 : Cond.instantiable "ColdHouse$BestSets" 6 ∈ gw := gw_of (i := 336) (by decide +kernel) (by decide +kernel)
theorem cst_J6_265 : Cond.constant "java/lang/Integer" 265 (1431655765) ∈ gw := gw_of (i := 569) (by decide +kernel) (by decide +kernel)
theorem cst_J6_266 : Cond.constant "java/lang/Integer" 266 (858993459) ∈ gw := gw_of (i := 570) (by decide +kernel) (by decide +kernel)
theorem cst_J6_267 : Cond.constant "java/lang/Integer" 267 (252645135) ∈ gw := gw_of (i := 571) (by decide +kernel) (by decide +kernel)
theorem cst_X4_98 : Cond.constantLong "ColdHouse$Sharing" 98 (9223372036854775807) ∈ gw := gw_of (i := 667) (by decide +kernel) (by decide +kernel)
theorem cst_X0_33 : Cond.constant "ColdHouse$BestSets" 33 (1073741824) ∈ gw := gw_of (i := 786) (by decide +kernel) (by decide +kernel)
theorem cl_L_10 : Cond.classLink "ColdHouseLaw" 10 "ColdHouseModel" ∈ gw := gw_of (i := 840) (by decide +kernel) (by decide +kernel)
theorem inst_X8 : Cond.instantiable "ColdHouseModel" 15 ∈ gw := gw_of (i := 841) (by decide +kernel) (by decide +kernel)
theorem cst_X8_94 : Cond.constant "ColdHouseModel" 94 (1000000000) ∈ gw := gw_of (i := 1022) (by decide +kernel) (by decide +kernel)
theorem acp_nat : Cond.native ⟨"java/lang/System", "arraycopy", "(Ljava/lang/Object;ILjava/lang/Object;II)V"⟩ ∈ gw := gw_of (i := 191) (by decide +kernel) (by decide +kernel)
theorem acp_st : Cond.static ⟨"java/lang/System", "arraycopy", "(Ljava/lang/Object;ILjava/lang/Object;II)V"⟩ ∈ gw := gw_of (i := 190) (by decide +kernel) (by decide +kernel)
theorem mmax_st : Cond.static ⟨"java/lang/Math", "max", "(II)I"⟩ ∈ gw := gw_of (i := 626) (by decide +kernel) (by decide +kernel)
theorem mmax_co : Cond.code ⟨"java/lang/Math", "max", "(II)I"⟩ prog_12_method_65_code 2 (some .int) ∈ gw := gw_of (i := 627) (by decide +kernel) (by decide +kernel)
theorem mmin_st : Cond.static ⟨"java/lang/Math", "min", "(II)I"⟩ ∈ gw := gw_of (i := 436) (by decide +kernel) (by decide +kernel)
theorem mmin_co : Cond.code ⟨"java/lang/Math", "min", "(II)I"⟩ prog_12_method_69_code 2 (some .int) ∈ gw := gw_of (i := 437) (by decide +kernel) (by decide +kernel)
theorem oi_im : Cond.instanceMethod ⟨"java/lang/Object", "<init>", "()V"⟩ ∈ gw := gw_of (i := 83) (by decide +kernel) (by decide +kernel)
