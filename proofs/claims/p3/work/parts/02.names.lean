def RX0 : String := "Wattgovern$Amount"
def TX0 : u_T := fun k => match k with
  | 0 => ("Wattgovern$Amount", "parts", "[J", true)
  | _ => ("Wattgovern$Amount", "used", "I", false)
def tyX0 : Nat → FieldType := fun k => match k with
  | 0 => .array .long
  | _ => .int
abbrev wsX00 : List Cond := u_ws RX0 TX0 2
theorem nmX0 : ∀ a, a < 2 → ∀ b, b < 2 → a ≠ b → (TX0 a).2.1 ≠ (TX0 b).2.1 := by decide +kernel
theorem tyX0_ok : ∀ k, k < 2 → parseFieldDescriptor (TX0 k).2.2.1 = some (tyX0 k) := by decide +kernel
abbrev cX0_init : ByteArray := prog_2_method_1_code
def yX0_init : MethodName := ⟨RX0, "<init>", "()V"⟩
abbrev cX0_become : ByteArray := prog_2_method_2_code
def yX0_become : MethodName := ⟨RX0, "become", "(I)V"⟩
abbrev cX0_becomeSame : ByteArray := prog_2_method_3_code
def yX0_becomeSame : MethodName := ⟨RX0, "becomeSame", "(LWattgovern$Amount;)V"⟩
abbrev cX0_becomeProduct : ByteArray := prog_2_method_4_code
def yX0_becomeProduct : MethodName := ⟨RX0, "becomeProduct", "(LWattgovern$Amount;I)V"⟩
abbrev cX0_becomeQuotient : ByteArray := prog_2_method_5_code
def yX0_becomeQuotient : MethodName := ⟨RX0, "becomeQuotient", "(LWattgovern$Amount;I)V"⟩
abbrev cX0_add : ByteArray := prog_2_method_6_code
def yX0_add : MethodName := ⟨RX0, "add", "(LWattgovern$Amount;)V"⟩
abbrev cX0_takeAway : ByteArray := prog_2_method_7_code
def yX0_takeAway : MethodName := ⟨RX0, "takeAway", "(LWattgovern$Amount;)V"⟩
abbrev cX0_isLess : ByteArray := prog_2_method_8_code
def yX0_isLess : MethodName := ⟨RX0, "isLess", "(LWattgovern$Amount;)Z"⟩
abbrev cX0_upTo : ByteArray := prog_2_method_9_code
def yX0_upTo : MethodName := ⟨RX0, "upTo", "(I)I"⟩
abbrev cX0_lowBits : ByteArray := prog_2_method_10_code
def yX0_lowBits : MethodName := ⟨RX0, "lowBits", "()J"⟩
abbrev cX0_toDouble : ByteArray := prog_2_method_11_code
def yX0_toDouble : MethodName := ⟨RX0, "toDouble", "()D"⟩
abbrev cX0_reach : ByteArray := prog_2_method_12_code
def yX0_reach : MethodName := ⟨RX0, "reach", "(LWattgovern$Amount;)I"⟩
abbrev cX0_putOnTop : ByteArray := prog_2_method_13_code
def yX0_putOnTop : MethodName := ⟨RX0, "putOnTop", "(J)V"⟩
abbrev cX0_dropZeros : ByteArray := prog_2_method_14_code
def yX0_dropZeros : MethodName := ⟨RX0, "dropZeros", "()V"⟩
def RX1 : String := "Wattgovern$Body"
def TX1 : u_T := fun k => match k with
  | 0 => ("Wattgovern$Body", "heatOfDegree", "I", true)
  | 1 => ("Wattgovern$Body", "heat", "LWattgovern$Amount;", true)
  | _ => ("Wattgovern$Body", "degrees", "LWattgovern$Amount;", true)
def tyX1 : Nat → FieldType := fun k => match k with
  | 0 => .int
  | 1 => .object "Wattgovern$Amount"
  | _ => .object "Wattgovern$Amount"
abbrev wsX10 : List Cond := u_ws RX1 TX1 3
theorem nmX1 : ∀ a, a < 3 → ∀ b, b < 3 → a ≠ b → (TX1 a).2.1 ≠ (TX1 b).2.1 := by decide +kernel
theorem tyX1_ok : ∀ k, k < 3 → parseFieldDescriptor (TX1 k).2.2.1 = some (tyX1 k) := by decide +kernel
abbrev cX1_init : ByteArray := prog_3_method_1_code
def yX1_init : MethodName := ⟨RX1, "<init>", "(II)V"⟩
abbrev cX1_gain : ByteArray := prog_3_method_2_code
def yX1_gain : MethodName := ⟨RX1, "gain", "(LWattgovern$Amount;)V"⟩
abbrev cX1_giveAway : ByteArray := prog_3_method_3_code
def yX1_giveAway : MethodName := ⟨RX1, "giveAway", "(LWattgovern$Amount;)V"⟩
def RX2 : String := "Wattgovern$Cooling"
def TX2 : u_T := fun k => match k with
  | 0 => ("Wattgovern$Cooling", "box", "LWattgovern$Body;", true)
  | 1 => ("Wattgovern$Cooling", "airDegrees", "LWattgovern$Amount;", true)
  | 2 => ("Wattgovern$Cooling", "givenToAir", "J", false)
  | 3 => ("Wattgovern$Cooling", "fanLevel", "I", false)
  | _ => ("Wattgovern$Cooling", "fanDead", "Z", false)
def tyX2 : Nat → FieldType := fun k => match k with
  | 0 => .object "Wattgovern$Body"
  | 1 => .object "Wattgovern$Amount"
  | 2 => .long
  | 3 => .int
  | _ => .boolean
abbrev wsX20 : List Cond := u_ws RX2 TX2 5
theorem nmX2 : ∀ a, a < 5 → ∀ b, b < 5 → a ≠ b → (TX2 a).2.1 ≠ (TX2 b).2.1 := by decide +kernel
theorem tyX2_ok : ∀ k, k < 5 → parseFieldDescriptor (TX2 k).2.2.1 = some (tyX2 k) := by decide +kernel
abbrev cX2_init : ByteArray := prog_4_method_1_code
def yX2_init : MethodName := ⟨RX2, "<init>", "()V"⟩
abbrev cX2_giveToAir : ByteArray := prog_4_method_2_code
def yX2_giveToAir : MethodName := ⟨RX2, "giveToAir", "(LWattgovern$Amount;)V"⟩
abbrev cX2_stepFan : ByteArray := prog_4_method_3_code
def yX2_stepFan : MethodName := ⟨RX2, "stepFan", "()V"⟩
abbrev cX2_runFan : ByteArray := prog_4_method_4_code
def yX2_runFan : MethodName := ⟨RX2, "runFan", "()I"⟩
def RX3 : String := "Wattgovern$Core"
def TX3 : u_T := fun k => match k with
  | 0 => ("Wattgovern$Core", "number", "I", true)
  | 1 => ("Wattgovern$Core", "rail", "LWattgovern$Rail;", true)
  | 2 => ("Wattgovern$Core", "big", "Z", true)
  | 3 => ("Wattgovern$Core", "governor", "C", false)
  | 4 => ("Wattgovern$Core", "fixedSpeed", "I", false)
  | 5 => ("Wattgovern$Core", "wanted", "I", false)
  | 6 => ("Wattgovern$Core", "mayHave", "I", false)
  | 7 => ("Wattgovern$Core", "speed", "I", false)
  | 8 => ("Wattgovern$Core", "clamp", "C", false)
  | 9 => ("Wattgovern$Core", "sleep", "C", false)
  | 10 => ("Wattgovern$Core", "idleTicks", "I", false)
  | 11 => ("Wattgovern$Core", "ticksToWake", "I", false)
  | 12 => ("Wattgovern$Core", "wasDeep", "Z", false)
  | 13 => ("Wattgovern$Core", "busy", "Z", false)
  | 14 => ("Wattgovern$Core", "wasBusy", "Z", false)
  | 15 => ("Wattgovern$Core", "body", "LWattgovern$Body;", true)
  | 16 => ("Wattgovern$Core", "sensorTells", "I", false)
  | 17 => ("Wattgovern$Core", "sensorLost", "Z", false)
  | 18 => ("Wattgovern$Core", "tripped", "Z", false)
  | _ => ("Wattgovern$Core", "worn", "I", false)
def tyX3 : Nat → FieldType := fun k => match k with
  | 0 => .int
  | 1 => .object "Wattgovern$Rail"
  | 2 => .boolean
  | 3 => .char
  | 4 => .int
  | 5 => .int
  | 6 => .int
  | 7 => .int
  | 8 => .char
  | 9 => .char
  | 10 => .int
  | 11 => .int
  | 12 => .boolean
  | 13 => .boolean
  | 14 => .boolean
  | 15 => .object "Wattgovern$Body"
  | 16 => .int
  | 17 => .boolean
  | 18 => .boolean
  | _ => .int
abbrev wsX30 : List Cond := u_ws RX3 TX3 20
theorem nmX3 : ∀ a, a < 20 → ∀ b, b < 20 → a ≠ b → (TX3 a).2.1 ≠ (TX3 b).2.1 := by decide +kernel
theorem tyX3_ok : ∀ k, k < 20 → parseFieldDescriptor (TX3 k).2.2.1 = some (tyX3 k) := by decide +kernel
abbrev cX3_init : ByteArray := prog_5_method_1_code
def yX3_init : MethodName := ⟨RX3, "<init>", "(ILWattgovern$Rail;Z)V"⟩
abbrev cX3_inAge : ByteArray := prog_5_method_2_code
def yX3_inAge : MethodName := ⟨RX3, "inAge", "()I"⟩
abbrev cX3_isTooOld : ByteArray := prog_5_method_3_code
def yX3_isTooOld : MethodName := ⟨RX3, "isTooOld", "()Z"⟩
abbrev cX3_greatestSpeed : ByteArray := prog_5_method_4_code
def yX3_greatestSpeed : MethodName := ⟨RX3, "greatestSpeed", "()I"⟩
abbrev cX3_workOfOneSpeed : ByteArray := prog_5_method_5_code
def yX3_workOfOneSpeed : MethodName := ⟨RX3, "workOfOneSpeed", "()I"⟩
abbrev cX3_voltsFor : ByteArray := prog_5_method_6_code
def yX3_voltsFor : MethodName := ⟨RX3, "voltsFor", "(I)I"⟩
abbrev cX3_noteBusy : ByteArray := prog_5_method_7_code
def yX3_noteBusy : MethodName := ⟨RX3, "noteBusy", "(Z)V"⟩
abbrev cX3_readSensor : ByteArray := prog_5_method_8_code
def yX3_readSensor : MethodName := ⟨RX3, "readSensor", "()V"⟩
abbrev cX3_tripAndWear : ByteArray := prog_5_method_9_code
def yX3_tripAndWear : MethodName := ⟨RX3, "tripAndWear", "()V"⟩
abbrev cX3_countIdle : ByteArray := prog_5_method_10_code
def yX3_countIdle : MethodName := ⟨RX3, "countIdle", "()V"⟩
abbrev cX3_beginToWake : ByteArray := prog_5_method_11_code
def yX3_beginToWake : MethodName := ⟨RX3, "beginToWake", "()V"⟩
abbrev cX3_wish : ByteArray := prog_5_method_12_code
def yX3_wish : MethodName := ⟨RX3, "wish", "(I)V"⟩
abbrev cX3_limit : ByteArray := prog_5_method_13_code
def yX3_limit : MethodName := ⟨RX3, "limit", "(IC)V"⟩
abbrev cX3_setSpeed : ByteArray := prog_5_method_14_code
def yX3_setSpeed : MethodName := ⟨RX3, "setSpeed", "()V"⟩
abbrev cX3_powerOfSpeed : ByteArray := prog_5_method_15_code
def yX3_powerOfSpeed : MethodName := ⟨RX3, "powerOfSpeed", "()I"⟩
abbrev cX3_tellLeak : ByteArray := prog_5_method_16_code
def yX3_tellLeak : MethodName := ⟨RX3, "tellLeak", "(LWattgovern$Amount;)V"⟩
def RX4 : String := "Wattgovern$Rail"
def TX4 : u_T := fun k => match k with
  | 0 => ("Wattgovern$Rail", "millivolts", "I", false)
  | _ => ("Wattgovern$Rail", "target", "I", false)
def tyX4 : Nat → FieldType := fun k => match k with
  | 0 => .int
  | _ => .int
abbrev wsX40 : List Cond := u_ws RX4 TX4 2
theorem nmX4 : ∀ a, a < 2 → ∀ b, b < 2 → a ≠ b → (TX4 a).2.1 ≠ (TX4 b).2.1 := by decide +kernel
theorem tyX4_ok : ∀ k, k < 2 → parseFieldDescriptor (TX4 k).2.2.1 = some (tyX4 k) := by decide +kernel
abbrev cX4_init : ByteArray := prog_6_method_1_code
def yX4_init : MethodName := ⟨RX4, "<init>", "()V"⟩
abbrev cX4_goTowardsTarget : ByteArray := prog_6_method_2_code
def yX4_goTowardsTarget : MethodName := ⟨RX4, "goTowardsTarget", "()V"⟩
def RX5 : String := "Wattgovern$Requests"
def TX5 : u_T := fun k => match k with
  | 0 => ("Wattgovern$Requests", "made", "I", false)
  | 1 => ("Wattgovern$Requests", "greatestNumber", "I", false)
  | 2 => ("Wattgovern$Requests", "heldNumber", "I", false)
  | 3 => ("Wattgovern$Requests", "heldSpeed", "I", false)
  | 4 => ("Wattgovern$Requests", "waitingNumber", "I", false)
  | 5 => ("Wattgovern$Requests", "waitingSpeed", "I", false)
  | _ => ("Wattgovern$Requests", "whyRefused", "C", false)
def tyX5 : Nat → FieldType := fun k => match k with
  | 0 => .int
  | 1 => .int
  | 2 => .int
  | 3 => .int
  | 4 => .int
  | 5 => .int
  | _ => .char
abbrev wsX50 : List Cond := u_ws RX5 TX5 7
theorem nmX5 : ∀ a, a < 7 → ∀ b, b < 7 → a ≠ b → (TX5 a).2.1 ≠ (TX5 b).2.1 := by decide +kernel
theorem tyX5_ok : ∀ k, k < 7 → parseFieldDescriptor (TX5 k).2.2.1 = some (tyX5 k) := by decide +kernel
abbrev cX5_init : ByteArray := prog_7_method_1_code
def yX5_init : MethodName := ⟨RX5, "<init>", "()V"⟩
abbrev cX5_take : ByteArray := prog_7_method_2_code
def yX5_take : MethodName := ⟨RX5, "take", "(II)V"⟩
abbrev cX5_beginToHold : ByteArray := prog_7_method_3_code
def yX5_beginToHold : MethodName := ⟨RX5, "beginToHold", "()V"⟩
abbrev cX5_dropBoth : ByteArray := prog_7_method_4_code
def yX5_dropBoth : MethodName := ⟨RX5, "dropBoth", "()Z"⟩
def RX6 : String := "Wattgovern$Supply"
def TX6 : u_T := fun k => match k with
  | 0 => ("Wattgovern$Supply", "wallGives", "I", false)
  | 1 => ("Wattgovern$Supply", "battery", "I", false)
  | 2 => ("Wattgovern$Supply", "purse", "I", false)
  | 3 => ("Wattgovern$Supply", "taken", "J", false)
  | 4 => ("Wattgovern$Supply", "owed", "J", false)
  | 5 => ("Wattgovern$Supply", "isInDebt", "Z", false)
  | 6 => ("Wattgovern$Supply", "sumFromWall", "J", false)
  | 7 => ("Wattgovern$Supply", "sumFromBattery", "J", false)
  | 8 => ("Wattgovern$Supply", "sumOwed", "J", false)
  | _ => ("Wattgovern$Supply", "sumTaken", "J", false)
def tyX6 : Nat → FieldType := fun k => match k with
  | 0 => .int
  | 1 => .int
  | 2 => .int
  | 3 => .long
  | 4 => .long
  | 5 => .boolean
  | 6 => .long
  | 7 => .long
  | 8 => .long
  | _ => .long
abbrev wsX60 : List Cond := u_ws RX6 TX6 10
theorem nmX6 : ∀ a, a < 10 → ∀ b, b < 10 → a ≠ b → (TX6 a).2.1 ≠ (TX6 b).2.1 := by decide +kernel
theorem tyX6_ok : ∀ k, k < 10 → parseFieldDescriptor (TX6 k).2.2.1 = some (tyX6 k) := by decide +kernel
abbrev cX6_init : ByteArray := prog_8_method_1_code
def yX6_init : MethodName := ⟨RX6, "<init>", "()V"⟩
abbrev cX6_give : ByteArray := prog_8_method_2_code
def yX6_give : MethodName := ⟨RX6, "give", "(LWattgovern$Amount;)V"⟩
def RX7 : String := "Wattgovern$Task"
def TX7 : u_T := fun k => match k with
  | 0 => ("Wattgovern$Task", "memory", "I", true)
  | 1 => ("Wattgovern$Task", "core", "I", false)
  | 2 => ("Wattgovern$Task", "left", "I", false)
  | _ => ("Wattgovern$Task", "coldTicks", "I", false)
def tyX7 : Nat → FieldType := fun k => match k with
  | 0 => .int
  | 1 => .int
  | 2 => .int
  | _ => .int
abbrev wsX70 : List Cond := u_ws RX7 TX7 4
theorem nmX7 : ∀ a, a < 4 → ∀ b, b < 4 → a ≠ b → (TX7 a).2.1 ≠ (TX7 b).2.1 := by decide +kernel
theorem tyX7_ok : ∀ k, k < 4 → parseFieldDescriptor (TX7 k).2.2.1 = some (tyX7 k) := by decide +kernel
abbrev cX7_init : ByteArray := prog_9_method_1_code
def yX7_init : MethodName := ⟨RX7, "<init>", "(III)V"⟩
abbrev cX7_workAt : ByteArray := prog_9_method_2_code
def yX7_workAt : MethodName := ⟨RX7, "workAt", "(I)V"⟩
def RX8 : String := "Wattgovern"
def TX8 : u_T := fun k => match k with
  | 0 => ("Wattgovern", "rails", "[LWattgovern$Rail;", true)
  | 1 => ("Wattgovern", "cores", "[LWattgovern$Core;", true)
  | 2 => ("Wattgovern", "tasks", "[LWattgovern$Task;", true)
  | 3 => ("Wattgovern", "cooling", "LWattgovern$Cooling;", true)
  | 4 => ("Wattgovern", "supply", "LWattgovern$Supply;", true)
  | 5 => ("Wattgovern", "requests", "LWattgovern$Requests;", true)
  | 6 => ("Wattgovern", "powerOfAll", "LWattgovern$Amount;", true)
  | 7 => ("Wattgovern", "passing", "LWattgovern$Amount;", true)
  | 8 => ("Wattgovern", "ticks", "I", false)
  | _ => ("Wattgovern", "heatFromOutside", "J", false)
def tyX8 : Nat → FieldType := fun k => match k with
  | 0 => .array (.object "Wattgovern$Rail")
  | 1 => .array (.object "Wattgovern$Core")
  | 2 => .array (.object "Wattgovern$Task")
  | 3 => .object "Wattgovern$Cooling"
  | 4 => .object "Wattgovern$Supply"
  | 5 => .object "Wattgovern$Requests"
  | 6 => .object "Wattgovern$Amount"
  | 7 => .object "Wattgovern$Amount"
  | 8 => .int
  | _ => .long
abbrev wsX80 : List Cond := u_ws RX8 TX8 10
theorem nmX8 : ∀ a, a < 10 → ∀ b, b < 10 → a ≠ b → (TX8 a).2.1 ≠ (TX8 b).2.1 := by decide +kernel
theorem tyX8_ok : ∀ k, k < 10 → parseFieldDescriptor (TX8 k).2.2.1 = some (tyX8 k) := by decide +kernel
abbrev cX8_init : ByteArray := prog_1_method_1_code
def yX8_init : MethodName := ⟨RX8, "<init>", "()V"⟩
abbrev cX8_core : ByteArray := prog_1_method_2_code
def yX8_core : MethodName := ⟨RX8, "core", "(IC)I"⟩
abbrev cX8_thread : ByteArray := prog_1_method_3_code
def yX8_thread : MethodName := ⟨RX8, "thread", "(III)I"⟩
abbrev cX8_feed : ByteArray := prog_1_method_4_code
def yX8_feed : MethodName := ⟨RX8, "feed", "(II)I"⟩
abbrev cX8_move : ByteArray := prog_1_method_5_code
def yX8_move : MethodName := ⟨RX8, "move", "(II)I"⟩
abbrev cX8_governor : ByteArray := prog_1_method_6_code
def yX8_governor : MethodName := ⟨RX8, "governor", "(ICI)C"⟩
abbrev cX8_work : ByteArray := prog_1_method_7_code
def yX8_work : MethodName := ⟨RX8, "work", "(I)I"⟩
abbrev cX8_isCold : ByteArray := prog_1_method_8_code
def yX8_isCold : MethodName := ⟨RX8, "isCold", "(I)Z"⟩
abbrev cX8_pass : ByteArray := prog_1_method_9_code
def yX8_pass : MethodName := ⟨RX8, "pass", "(I)I"⟩
abbrev cX8_speed : ByteArray := prog_1_method_10_code
def yX8_speed : MethodName := ⟨RX8, "speed", "(I)I"⟩
abbrev cX8_wanted : ByteArray := prog_1_method_11_code
def yX8_wanted : MethodName := ⟨RX8, "wanted", "(I)I"⟩
abbrev cX8_clamp : ByteArray := prog_1_method_12_code
def yX8_clamp : MethodName := ⟨RX8, "clamp", "(I)C"⟩
abbrev cX8_sleep : ByteArray := prog_1_method_13_code
def yX8_sleep : MethodName := ⟨RX8, "sleep", "(I)C"⟩
abbrev cX8_isBusy : ByteArray := prog_1_method_14_code
def yX8_isBusy : MethodName := ⟨RX8, "isBusy", "(I)Z"⟩
abbrev cX8_need : ByteArray := prog_1_method_15_code
def yX8_need : MethodName := ⟨RX8, "need", "(II)I"⟩
abbrev cX8_volts : ByteArray := prog_1_method_16_code
def yX8_volts : MethodName := ⟨RX8, "volts", "(I)I"⟩
abbrev cX8_heat : ByteArray := prog_1_method_17_code
def yX8_heat : MethodName := ⟨RX8, "heat", "(I)I"⟩
abbrev cX8_degrees : ByteArray := prog_1_method_18_code
def yX8_degrees : MethodName := ⟨RX8, "degrees", "(I)I"⟩
abbrev cX8_caseDegrees : ByteArray := prog_1_method_19_code
def yX8_caseDegrees : MethodName := ⟨RX8, "caseDegrees", "()I"⟩
abbrev cX8_sensor : ByteArray := prog_1_method_20_code
def yX8_sensor : MethodName := ⟨RX8, "sensor", "(I)I"⟩
abbrev cX8_lose : ByteArray := prog_1_method_21_code
def yX8_lose : MethodName := ⟨RX8, "lose", "(IZ)Z"⟩
abbrev cX8_isTripped : ByteArray := prog_1_method_22_code
def yX8_isTripped : MethodName := ⟨RX8, "isTripped", "(I)Z"⟩
abbrev cX8_fan : ByteArray := prog_1_method_23_code
def yX8_fan : MethodName := ⟨RX8, "fan", "()I"⟩
abbrev cX8_killFan : ByteArray := prog_1_method_24_code
def yX8_killFan : MethodName := ⟨RX8, "killFan", "(Z)Z"⟩
abbrev cX8_heatUp : ByteArray := prog_1_method_25_code
def yX8_heatUp : MethodName := ⟨RX8, "heatUp", "(II)I"⟩
abbrev cX8_wall : ByteArray := prog_1_method_26_code
def yX8_wall : MethodName := ⟨RX8, "wall", "(I)I"⟩
abbrev cX8_battery : ByteArray := prog_1_method_27_code
def yX8_battery : MethodName := ⟨RX8, "battery", "()I"⟩
abbrev cX8_purse : ByteArray := prog_1_method_28_code
def yX8_purse : MethodName := ⟨RX8, "purse", "()I"⟩
abbrev cX8_taken : ByteArray := prog_1_method_29_code
def yX8_taken : MethodName := ⟨RX8, "taken", "()I"⟩
abbrev cX8_owed : ByteArray := prog_1_method_30_code
def yX8_owed : MethodName := ⟨RX8, "owed", "()I"⟩
abbrev cX8_request : ByteArray := prog_1_method_31_code
def yX8_request : MethodName := ⟨RX8, "request", "(II)I"⟩
abbrev cX8_holds : ByteArray := prog_1_method_32_code
def yX8_holds : MethodName := ⟨RX8, "holds", "()I"⟩
abbrev cX8_why : ByteArray := prog_1_method_33_code
def yX8_why : MethodName := ⟨RX8, "why", "()C"⟩
abbrev cX8_drop : ByteArray := prog_1_method_34_code
def yX8_drop : MethodName := ⟨RX8, "drop", "()Z"⟩
abbrev cX8_age : ByteArray := prog_1_method_35_code
def yX8_age : MethodName := ⟨RX8, "age", "(I)I"⟩
abbrev cX8_isRetired : ByteArray := prog_1_method_36_code
def yX8_isRetired : MethodName := ⟨RX8, "isRetired", "(I)Z"⟩
abbrev cX8_wear : ByteArray := prog_1_method_37_code
def yX8_wear : MethodName := ⟨RX8, "wear", "(II)I"⟩
abbrev cX8_account : ByteArray := prog_1_method_38_code
def yX8_account : MethodName := ⟨RX8, "account", "(C)J"⟩
abbrev cX8_checksum : ByteArray := prog_1_method_39_code
def yX8_checksum : MethodName := ⟨RX8, "checksum", "()J"⟩
abbrev cX8_busyShare : ByteArray := prog_1_method_40_code
def yX8_busyShare : MethodName := ⟨RX8, "busyShare", "()F"⟩
abbrev cX8_meanDegrees : ByteArray := prog_1_method_41_code
def yX8_meanDegrees : MethodName := ⟨RX8, "meanDegrees", "()D"⟩
abbrev cX8_isSound : ByteArray := prog_1_method_42_code
def yX8_isSound : MethodName := ⟨RX8, "isSound", "()Z"⟩
abbrev cX8_isFrom : ByteArray := prog_1_method_43_code
def yX8_isFrom : MethodName := ⟨RX8, "isFrom", "(III)Z"⟩
abbrev cX8_railAt : ByteArray := prog_1_method_44_code
def yX8_railAt : MethodName := ⟨RX8, "railAt", "(I)LWattgovern$Rail;"⟩
abbrev cX8_coreAt : ByteArray := prog_1_method_45_code
def yX8_coreAt : MethodName := ⟨RX8, "coreAt", "(I)LWattgovern$Core;"⟩
abbrev cX8_taskAt : ByteArray := prog_1_method_46_code
def yX8_taskAt : MethodName := ⟨RX8, "taskAt", "(I)LWattgovern$Task;"⟩
abbrev cX8_runningOn : ByteArray := prog_1_method_47_code
def yX8_runningOn : MethodName := ⟨RX8, "runningOn", "(I)LWattgovern$Task;"⟩
abbrev cX8_threadsWithWorkOn : ByteArray := prog_1_method_48_code
def yX8_threadsWithWorkOn : MethodName := ⟨RX8, "threadsWithWorkOn", "(I)I"⟩
abbrev cX8_oneTick : ByteArray := prog_1_method_49_code
def yX8_oneTick : MethodName := ⟨RX8, "oneTick", "()V"⟩
abbrev cX8_beginCores : ByteArray := prog_1_method_50_code
def yX8_beginCores : MethodName := ⟨RX8, "beginCores", "()V"⟩
abbrev cX8_sleepAndWake : ByteArray := prog_1_method_51_code
def yX8_sleepAndWake : MethodName := ⟨RX8, "sleepAndWake", "()V"⟩
abbrev cX8_goOnWaking : ByteArray := prog_1_method_52_code
def yX8_goOnWaking : MethodName := ⟨RX8, "goOnWaking", "(LWattgovern$Core;)V"⟩
abbrev cX8_chillThreadsOn : ByteArray := prog_1_method_53_code
def yX8_chillThreadsOn : MethodName := ⟨RX8, "chillThreadsOn", "(I)V"⟩
abbrev cX8_wishAndClamp : ByteArray := prog_1_method_54_code
def yX8_wishAndClamp : MethodName := ⟨RX8, "wishAndClamp", "()V"⟩
abbrev cX8_clampOne : ByteArray := prog_1_method_55_code
def yX8_clampOne : MethodName := ⟨RX8, "clampOne", "(LWattgovern$Core;)V"⟩
abbrev cX8_driveRails : ByteArray := prog_1_method_56_code
def yX8_driveRails : MethodName := ⟨RX8, "driveRails", "()V"⟩
abbrev cX8_letCoresRun : ByteArray := prog_1_method_57_code
def yX8_letCoresRun : MethodName := ⟨RX8, "letCoresRun", "()V"⟩
abbrev cX8_heatCores : ByteArray := prog_1_method_58_code
def yX8_heatCores : MethodName := ⟨RX8, "heatCores", "()V"⟩
abbrev cX8_flowToCase : ByteArray := prog_1_method_59_code
def yX8_flowToCase : MethodName := ⟨RX8, "flowToCase", "()V"⟩
def RX9 : String := "WattgovernModel$Core"
def TX9 : u_T := fun k => match k with
  | 0 => ("WattgovernModel$Core", "rail", "I", true)
  | 1 => ("WattgovernModel$Core", "most", "I", true)
  | 2 => ("WattgovernModel$Core", "isBig", "Z", true)
  | 3 => ("WattgovernModel$Core", "governor", "C", false)
  | 4 => ("WattgovernModel$Core", "sleep", "C", false)
  | 5 => ("WattgovernModel$Core", "clamp", "C", false)
  | 6 => ("WattgovernModel$Core", "fixed", "I", false)
  | 7 => ("WattgovernModel$Core", "speed", "I", false)
  | 8 => ("WattgovernModel$Core", "wanted", "I", false)
  | 9 => ("WattgovernModel$Core", "may", "I", false)
  | 10 => ("WattgovernModel$Core", "heat", "I", false)
  | 11 => ("WattgovernModel$Core", "idle", "I", false)
  | 12 => ("WattgovernModel$Core", "waking", "I", false)
  | 13 => ("WattgovernModel$Core", "wear", "I", false)
  | 14 => ("WattgovernModel$Core", "told", "I", false)
  | 15 => ("WattgovernModel$Core", "isLost", "Z", false)
  | 16 => ("WattgovernModel$Core", "isTripped", "Z", false)
  | 17 => ("WattgovernModel$Core", "isBusy", "Z", false)
  | _ => ("WattgovernModel$Core", "wokeFromDeep", "Z", false)
def tyX9 : Nat → FieldType := fun k => match k with
  | 0 => .int
  | 1 => .int
  | 2 => .boolean
  | 3 => .char
  | 4 => .char
  | 5 => .char
  | 6 => .int
  | 7 => .int
  | 8 => .int
  | 9 => .int
  | 10 => .int
  | 11 => .int
  | 12 => .int
  | 13 => .int
  | 14 => .int
  | 15 => .boolean
  | 16 => .boolean
  | 17 => .boolean
  | _ => .boolean
abbrev wsX90 : List Cond := u_ws RX9 TX9 19
theorem nmX9 : ∀ a, a < 19 → ∀ b, b < 19 → a ≠ b → (TX9 a).2.1 ≠ (TX9 b).2.1 := by decide +kernel
theorem tyX9_ok : ∀ k, k < 19 → parseFieldDescriptor (TX9 k).2.2.1 = some (tyX9 k) := by decide +kernel
def RX10 : String := "WattgovernModel$Task"
def TX10 : u_T := fun k => match k with
  | 0 => ("WattgovernModel$Task", "memory", "I", true)
  | 1 => ("WattgovernModel$Task", "core", "I", false)
  | 2 => ("WattgovernModel$Task", "left", "I", false)
  | _ => ("WattgovernModel$Task", "cold", "I", false)
def tyX10 : Nat → FieldType := fun k => match k with
  | 0 => .int
  | 1 => .int
  | 2 => .int
  | _ => .int
abbrev wsX100 : List Cond := u_ws RX10 TX10 4
theorem nmX10 : ∀ a, a < 4 → ∀ b, b < 4 → a ≠ b → (TX10 a).2.1 ≠ (TX10 b).2.1 := by decide +kernel
theorem tyX10_ok : ∀ k, k < 4 → parseFieldDescriptor (TX10 k).2.2.1 = some (tyX10 k) := by decide +kernel
def RX11 : String := "WattgovernModel"
def TX11 : u_T := fun k => match k with
  | 0 => ("WattgovernModel", "cores", "Ljava/util/List;", true)
  | 1 => ("WattgovernModel", "threads", "Ljava/util/List;", true)
  | 2 => ("WattgovernModel", "volts", "[I", true)
  | 3 => ("WattgovernModel", "degrees", "[I", true)
  | 4 => ("WattgovernModel", "ticks", "I", false)
  | 5 => ("WattgovernModel", "box", "I", false)
  | 6 => ("WattgovernModel", "level", "I", false)
  | 7 => ("WattgovernModel", "gift", "I", false)
  | 8 => ("WattgovernModel", "battery", "I", false)
  | 9 => ("WattgovernModel", "purse", "I", false)
  | 10 => ("WattgovernModel", "taken", "I", false)
  | 11 => ("WattgovernModel", "owed", "I", false)
  | 12 => ("WattgovernModel", "code", "I", false)
  | 13 => ("WattgovernModel", "greatest", "I", false)
  | 14 => ("WattgovernModel", "holding", "I", false)
  | 15 => ("WattgovernModel", "holdingSpeed", "I", false)
  | 16 => ("WattgovernModel", "waiting", "I", false)
  | 17 => ("WattgovernModel", "waitingSpeed", "I", false)
  | 18 => ("WattgovernModel", "requests", "I", false)
  | 19 => ("WattgovernModel", "fromWall", "J", false)
  | 20 => ("WattgovernModel", "fromBattery", "J", false)
  | 21 => ("WattgovernModel", "allOwed", "J", false)
  | 22 => ("WattgovernModel", "outside", "J", false)
  | 23 => ("WattgovernModel", "toAir", "J", false)
  | 24 => ("WattgovernModel", "allTaken", "J", false)
  | 25 => ("WattgovernModel", "isDead", "Z", false)
  | _ => ("WattgovernModel", "why", "C", false)
def tyX11 : Nat → FieldType := fun k => match k with
  | 0 => .object "java/util/List"
  | 1 => .object "java/util/List"
  | 2 => .array .int
  | 3 => .array .int
  | 4 => .int
  | 5 => .int
  | 6 => .int
  | 7 => .int
  | 8 => .int
  | 9 => .int
  | 10 => .int
  | 11 => .int
  | 12 => .int
  | 13 => .int
  | 14 => .int
  | 15 => .int
  | 16 => .int
  | 17 => .int
  | 18 => .int
  | 19 => .long
  | 20 => .long
  | 21 => .long
  | 22 => .long
  | 23 => .long
  | 24 => .long
  | 25 => .boolean
  | _ => .char
abbrev wsX110 : List Cond := u_ws RX11 TX11 27
theorem nmX11 : ∀ a, a < 27 → ∀ b, b < 27 → a ≠ b → (TX11 a).2.1 ≠ (TX11 b).2.1 := by decide +kernel
theorem tyX11_ok : ∀ k, k < 27 → parseFieldDescriptor (TX11 k).2.2.1 = some (tyX11 k) := by decide +kernel
def RJx145de : String := "java/io/Serializable"
def TJx145de : u_T := fun k => match k with
  | _ => ("", "", "", false)
def tyJx145de : Nat → FieldType := fun k => match k with
  | _ => .int
abbrev wsJx145de0 : List Cond := u_ws RJx145de TJx145de 0
theorem nmJx145de : ∀ a, a < 0 → ∀ b, b < 0 → a ≠ b → (TJx145de a).2.1 ≠ (TJx145de b).2.1 := by decide +kernel
theorem tyJx145de_ok : ∀ k, k < 0 → parseFieldDescriptor (TJx145de k).2.2.1 = some (tyJx145de k) := by decide +kernel
def RJx9f9b0 : String := "java/lang/CharSequence"
def TJx9f9b0 : u_T := fun k => match k with
  | _ => ("", "", "", false)
def tyJx9f9b0 : Nat → FieldType := fun k => match k with
  | _ => .int
abbrev wsJx9f9b00 : List Cond := u_ws RJx9f9b0 TJx9f9b0 0
theorem nmJx9f9b0 : ∀ a, a < 0 → ∀ b, b < 0 → a ≠ b → (TJx9f9b0 a).2.1 ≠ (TJx9f9b0 b).2.1 := by decide +kernel
theorem tyJx9f9b0_ok : ∀ k, k < 0 → parseFieldDescriptor (TJx9f9b0 k).2.2.1 = some (tyJx9f9b0 k) := by decide +kernel
def RJ11 : String := "java/lang/Character"
def TJ11 : u_T := fun k => match k with
  | _ => ("", "", "", false)
def tyJ11 : Nat → FieldType := fun k => match k with
  | _ => .int
abbrev wsJ110 : List Cond := u_ws RJ11 TJ11 0
theorem nmJ11 : ∀ a, a < 0 → ∀ b, b < 0 → a ≠ b → (TJ11 a).2.1 ≠ (TJ11 b).2.1 := by decide +kernel
theorem tyJ11_ok : ∀ k, k < 0 → parseFieldDescriptor (TJ11 k).2.2.1 = some (tyJ11 k) := by decide +kernel
def RJx8e188 : String := "java/lang/Cloneable"
def TJx8e188 : u_T := fun k => match k with
  | _ => ("", "", "", false)
def tyJx8e188 : Nat → FieldType := fun k => match k with
  | _ => .int
abbrev wsJx8e1880 : List Cond := u_ws RJx8e188 TJx8e188 0
theorem nmJx8e188 : ∀ a, a < 0 → ∀ b, b < 0 → a ≠ b → (TJx8e188 a).2.1 ≠ (TJx8e188 b).2.1 := by decide +kernel
theorem tyJx8e188_ok : ∀ k, k < 0 → parseFieldDescriptor (TJx8e188 k).2.2.1 = some (tyJx8e188 k) := by decide +kernel
def RJxb160c : String := "java/lang/Comparable"
def TJxb160c : u_T := fun k => match k with
  | _ => ("", "", "", false)
def tyJxb160c : Nat → FieldType := fun k => match k with
  | _ => .int
abbrev wsJxb160c0 : List Cond := u_ws RJxb160c TJxb160c 0
theorem nmJxb160c : ∀ a, a < 0 → ∀ b, b < 0 → a ≠ b → (TJxb160c a).2.1 ≠ (TJxb160c b).2.1 := by decide +kernel
theorem tyJxb160c_ok : ∀ k, k < 0 → parseFieldDescriptor (TJxb160c k).2.2.1 = some (tyJxb160c k) := by decide +kernel
def RJxab1ab : String := "java/lang/Iterable"
def TJxab1ab : u_T := fun k => match k with
  | _ => ("", "", "", false)
def tyJxab1ab : Nat → FieldType := fun k => match k with
  | _ => .int
abbrev wsJxab1ab0 : List Cond := u_ws RJxab1ab TJxab1ab 0
theorem nmJxab1ab : ∀ a, a < 0 → ∀ b, b < 0 → a ≠ b → (TJxab1ab a).2.1 ≠ (TJxab1ab b).2.1 := by decide +kernel
theorem tyJxab1ab_ok : ∀ k, k < 0 → parseFieldDescriptor (TJxab1ab k).2.2.1 = some (tyJxab1ab k) := by decide +kernel
def RJ9 : String := "java/lang/Math"
def TJ9 : u_T := fun k => match k with
  | _ => ("", "", "", false)
def tyJ9 : Nat → FieldType := fun k => match k with
  | _ => .int
abbrev wsJ90 : List Cond := u_ws RJ9 TJ9 0
theorem nmJ9 : ∀ a, a < 0 → ∀ b, b < 0 → a ≠ b → (TJ9 a).2.1 ≠ (TJ9 b).2.1 := by decide +kernel
theorem tyJ9_ok : ∀ k, k < 0 → parseFieldDescriptor (TJ9 k).2.2.1 = some (tyJ9 k) := by decide +kernel
def RJ0 : String := "java/lang/String"
def TJ0 : u_T := fun k => match k with
  | _ => ("", "", "", false)
def tyJ0 : Nat → FieldType := fun k => match k with
  | _ => .int
abbrev wsJ00 : List Cond := u_ws RJ0 TJ0 0
theorem nmJ0 : ∀ a, a < 0 → ∀ b, b < 0 → a ≠ b → (TJ0 a).2.1 ≠ (TJ0 b).2.1 := by decide +kernel
theorem tyJ0_ok : ∀ k, k < 0 → parseFieldDescriptor (TJ0 k).2.2.1 = some (tyJ0 k) := by decide +kernel
def RJ1 : String := "java/lang/StringLatin1"
def TJ1 : u_T := fun k => match k with
  | _ => ("", "", "", false)
def tyJ1 : Nat → FieldType := fun k => match k with
  | _ => .int
abbrev wsJ10 : List Cond := u_ws RJ1 TJ1 0
theorem nmJ1 : ∀ a, a < 0 → ∀ b, b < 0 → a ≠ b → (TJ1 a).2.1 ≠ (TJ1 b).2.1 := by decide +kernel
theorem tyJ1_ok : ∀ k, k < 0 → parseFieldDescriptor (TJ1 k).2.2.1 = some (tyJ1 k) := by decide +kernel
def RJ2 : String := "java/lang/StringUTF16"
def TJ2 : u_T := fun k => match k with
  | _ => ("", "", "", false)
def tyJ2 : Nat → FieldType := fun k => match k with
  | _ => .int
abbrev wsJ20 : List Cond := u_ws RJ2 TJ2 0
theorem nmJ2 : ∀ a, a < 0 → ∀ b, b < 0 → a ≠ b → (TJ2 a).2.1 ≠ (TJ2 b).2.1 := by decide +kernel
theorem tyJ2_ok : ∀ k, k < 0 → parseFieldDescriptor (TJ2 k).2.2.1 = some (tyJ2 k) := by decide +kernel
def RJ10 : String := "java/lang/System"
def TJ10 : u_T := fun k => match k with
  | _ => ("", "", "", false)
def tyJ10 : Nat → FieldType := fun k => match k with
  | _ => .int
abbrev wsJ100 : List Cond := u_ws RJ10 TJ10 0
theorem nmJ10 : ∀ a, a < 0 → ∀ b, b < 0 → a ≠ b → (TJ10 a).2.1 ≠ (TJ10 b).2.1 := by decide +kernel
theorem tyJ10_ok : ∀ k, k < 0 → parseFieldDescriptor (TJ10 k).2.2.1 = some (tyJ10 k) := by decide +kernel
def RJxfd54e : String := "java/lang/constant/Constable"
def TJxfd54e : u_T := fun k => match k with
  | _ => ("", "", "", false)
def tyJxfd54e : Nat → FieldType := fun k => match k with
  | _ => .int
abbrev wsJxfd54e0 : List Cond := u_ws RJxfd54e TJxfd54e 0
theorem nmJxfd54e : ∀ a, a < 0 → ∀ b, b < 0 → a ≠ b → (TJxfd54e a).2.1 ≠ (TJxfd54e b).2.1 := by decide +kernel
theorem tyJxfd54e_ok : ∀ k, k < 0 → parseFieldDescriptor (TJxfd54e k).2.2.1 = some (tyJxfd54e k) := by decide +kernel
def RJx3cf43 : String := "java/lang/constant/ConstantDesc"
def TJx3cf43 : u_T := fun k => match k with
  | _ => ("", "", "", false)
def tyJx3cf43 : Nat → FieldType := fun k => match k with
  | _ => .int
abbrev wsJx3cf430 : List Cond := u_ws RJx3cf43 TJx3cf43 0
theorem nmJx3cf43 : ∀ a, a < 0 → ∀ b, b < 0 → a ≠ b → (TJx3cf43 a).2.1 ≠ (TJx3cf43 b).2.1 := by decide +kernel
theorem tyJx3cf43_ok : ∀ k, k < 0 → parseFieldDescriptor (TJx3cf43 k).2.2.1 = some (tyJx3cf43 k) := by decide +kernel
def RJxa1e45 : String := "java/util/AbstractCollection"
def TJxa1e45 : u_T := fun k => match k with
  | _ => ("", "", "", false)
def tyJxa1e45 : Nat → FieldType := fun k => match k with
  | _ => .int
abbrev wsJxa1e450 : List Cond := u_ws RJxa1e45 TJxa1e45 0
theorem nmJxa1e45 : ∀ a, a < 0 → ∀ b, b < 0 → a ≠ b → (TJxa1e45 a).2.1 ≠ (TJxa1e45 b).2.1 := by decide +kernel
theorem tyJxa1e45_ok : ∀ k, k < 0 → parseFieldDescriptor (TJxa1e45 k).2.2.1 = some (tyJxa1e45 k) := by decide +kernel
def RJxc12de : String := "java/util/AbstractList"
def TJxc12de : u_T := fun k => match k with
  | _ => ("", "", "", false)
def tyJxc12de : Nat → FieldType := fun k => match k with
  | _ => .int
abbrev wsJxc12de0 : List Cond := u_ws RJxc12de TJxc12de 0
theorem nmJxc12de : ∀ a, a < 0 → ∀ b, b < 0 → a ≠ b → (TJxc12de a).2.1 ≠ (TJxc12de b).2.1 := by decide +kernel
theorem tyJxc12de_ok : ∀ k, k < 0 → parseFieldDescriptor (TJxc12de k).2.2.1 = some (tyJxc12de k) := by decide +kernel
def RJx35411 : String := "java/util/ArrayList$Itr"
def TJx35411 : u_T := fun k => match k with
  | 0 => ("java/util/ArrayList$Itr", "cursor", "I", false)
  | 1 => ("java/util/ArrayList$Itr", "lastRet", "I", false)
  | 2 => ("java/util/ArrayList$Itr", "expectedModCount", "I", false)
  | _ => ("java/util/ArrayList$Itr", "this$0", "Ljava/util/ArrayList;", true)
def tyJx35411 : Nat → FieldType := fun k => match k with
  | 0 => .int
  | 1 => .int
  | 2 => .int
  | _ => .object "java/util/ArrayList"
abbrev wsJx354110 : List Cond := u_ws RJx35411 TJx35411 4
theorem nmJx35411 : ∀ a, a < 4 → ∀ b, b < 4 → a ≠ b → (TJx35411 a).2.1 ≠ (TJx35411 b).2.1 := by decide +kernel
theorem tyJx35411_ok : ∀ k, k < 4 → parseFieldDescriptor (TJx35411 k).2.2.1 = some (tyJx35411 k) := by decide +kernel
def RJx4a65c : String := "java/util/ArrayList"
def TJx4a65c : u_T := fun k => match k with
  | 0 => ("java/util/AbstractList", "modCount", "I", false)
  | 1 => ("java/util/ArrayList", "elementData", "[Ljava/lang/Object;", false)
  | _ => ("java/util/ArrayList", "size", "I", false)
def tyJx4a65c : Nat → FieldType := fun k => match k with
  | 0 => .int
  | 1 => .array (.object "java/lang/Object")
  | _ => .int
abbrev wsJx4a65c0 : List Cond := u_ws RJx4a65c TJx4a65c 3
theorem nmJx4a65c : ∀ a, a < 3 → ∀ b, b < 3 → a ≠ b → (TJx4a65c a).2.1 ≠ (TJx4a65c b).2.1 := by decide +kernel
theorem tyJx4a65c_ok : ∀ k, k < 3 → parseFieldDescriptor (TJx4a65c k).2.2.1 = some (tyJx4a65c k) := by decide +kernel
def RJ7 : String := "java/util/Arrays"
def TJ7 : u_T := fun k => match k with
  | _ => ("", "", "", false)
def tyJ7 : Nat → FieldType := fun k => match k with
  | _ => .int
abbrev wsJ70 : List Cond := u_ws RJ7 TJ7 0
theorem nmJ7 : ∀ a, a < 0 → ∀ b, b < 0 → a ≠ b → (TJ7 a).2.1 ≠ (TJ7 b).2.1 := by decide +kernel
theorem tyJ7_ok : ∀ k, k < 0 → parseFieldDescriptor (TJ7 k).2.2.1 = some (tyJ7 k) := by decide +kernel
def RJx5ef63 : String := "java/util/Collection"
def TJx5ef63 : u_T := fun k => match k with
  | _ => ("", "", "", false)
def tyJx5ef63 : Nat → FieldType := fun k => match k with
  | _ => .int
abbrev wsJx5ef630 : List Cond := u_ws RJx5ef63 TJx5ef63 0
theorem nmJx5ef63 : ∀ a, a < 0 → ∀ b, b < 0 → a ≠ b → (TJx5ef63 a).2.1 ≠ (TJx5ef63 b).2.1 := by decide +kernel
theorem tyJx5ef63_ok : ∀ k, k < 0 → parseFieldDescriptor (TJx5ef63 k).2.2.1 = some (tyJx5ef63 k) := by decide +kernel
def RJx4d0d8 : String := "java/util/Iterator"
def TJx4d0d8 : u_T := fun k => match k with
  | _ => ("", "", "", false)
def tyJx4d0d8 : Nat → FieldType := fun k => match k with
  | _ => .int
abbrev wsJx4d0d80 : List Cond := u_ws RJx4d0d8 TJx4d0d8 0
theorem nmJx4d0d8 : ∀ a, a < 0 → ∀ b, b < 0 → a ≠ b → (TJx4d0d8 a).2.1 ≠ (TJx4d0d8 b).2.1 := by decide +kernel
theorem tyJx4d0d8_ok : ∀ k, k < 0 → parseFieldDescriptor (TJx4d0d8 k).2.2.1 = some (tyJx4d0d8 k) := by decide +kernel
def RJxbd725 : String := "java/util/List"
def TJxbd725 : u_T := fun k => match k with
  | _ => ("", "", "", false)
def tyJxbd725 : Nat → FieldType := fun k => match k with
  | _ => .int
abbrev wsJxbd7250 : List Cond := u_ws RJxbd725 TJxbd725 0
theorem nmJxbd725 : ∀ a, a < 0 → ∀ b, b < 0 → a ≠ b → (TJxbd725 a).2.1 ≠ (TJxbd725 b).2.1 := by decide +kernel
theorem tyJxbd725_ok : ∀ k, k < 0 → parseFieldDescriptor (TJxbd725 k).2.2.1 = some (tyJxbd725 k) := by decide +kernel
def RJ15 : String := "java/util/Objects"
def TJ15 : u_T := fun k => match k with
  | _ => ("", "", "", false)
def tyJ15 : Nat → FieldType := fun k => match k with
  | _ => .int
abbrev wsJ150 : List Cond := u_ws RJ15 TJ15 0
theorem nmJ15 : ∀ a, a < 0 → ∀ b, b < 0 → a ≠ b → (TJ15 a).2.1 ≠ (TJ15 b).2.1 := by decide +kernel
theorem tyJ15_ok : ∀ k, k < 0 → parseFieldDescriptor (TJ15 k).2.2.1 = some (tyJ15 k) := by decide +kernel
def RJxf0a74 : String := "java/util/RandomAccess"
def TJxf0a74 : u_T := fun k => match k with
  | _ => ("", "", "", false)
def tyJxf0a74 : Nat → FieldType := fun k => match k with
  | _ => .int
abbrev wsJxf0a740 : List Cond := u_ws RJxf0a74 TJxf0a74 0
theorem nmJxf0a74 : ∀ a, a < 0 → ∀ b, b < 0 → a ≠ b → (TJxf0a74 a).2.1 ≠ (TJxf0a74 b).2.1 := by decide +kernel
theorem tyJxf0a74_ok : ∀ k, k < 0 → parseFieldDescriptor (TJxf0a74 k).2.2.1 = some (tyJxf0a74 k) := by decide +kernel
def RJxa66e6 : String := "java/util/SequencedCollection"
def TJxa66e6 : u_T := fun k => match k with
  | _ => ("", "", "", false)
def tyJxa66e6 : Nat → FieldType := fun k => match k with
  | _ => .int
abbrev wsJxa66e60 : List Cond := u_ws RJxa66e6 TJxa66e6 0
theorem nmJxa66e6 : ∀ a, a < 0 → ∀ b, b < 0 → a ≠ b → (TJxa66e6 a).2.1 ≠ (TJxa66e6 b).2.1 := by decide +kernel
theorem tyJxa66e6_ok : ∀ k, k < 0 → parseFieldDescriptor (TJxa66e6 k).2.2.1 = some (tyJxa66e6 k) := by decide +kernel
def RJ8 : String := "jdk/internal/util/ArraysSupport"
def TJ8 : u_T := fun k => match k with
  | _ => ("", "", "", false)
def tyJ8 : Nat → FieldType := fun k => match k with
  | _ => .int
abbrev wsJ80 : List Cond := u_ws RJ8 TJ8 0
theorem nmJ8 : ∀ a, a < 0 → ∀ b, b < 0 → a ≠ b → (TJ8 a).2.1 ≠ (TJ8 b).2.1 := by decide +kernel
theorem tyJ8_ok : ∀ k, k < 0 → parseFieldDescriptor (TJ8 k).2.2.1 = some (tyJ8 k) := by decide +kernel
def RJ3 : String := "jdk/internal/util/Preconditions"
def TJ3 : u_T := fun k => match k with
  | _ => ("", "", "", false)
def tyJ3 : Nat → FieldType := fun k => match k with
  | _ => .int
abbrev wsJ30 : List Cond := u_ws RJ3 TJ3 0
theorem nmJ3 : ∀ a, a < 0 → ∀ b, b < 0 → a ≠ b → (TJ3 a).2.1 ≠ (TJ3 b).2.1 := by decide +kernel
theorem tyJ3_ok : ∀ k, k < 0 → parseFieldDescriptor (TJ3 k).2.2.1 = some (tyJ3 k) := by decide +kernel
def wsX0_init : List Cond := .code yX0_init cX0_init 1 none :: ([.methodLink RX0 3 objectInit, .instanceMethod objectInit, .code objectInit ⟨#[0xb1]⟩ 1 none, .arrayClass .long, .fieldLink RX0 9 "Wattgovern$Amount" "parts" "[J", .fieldLink RX0 15 "Wattgovern$Amount" "used" "I"] ++ wsX00)
def wsX0_reach : List Cond := .code yX0_reach cX0_reach 2 (some .int) :: ([.fieldLink RX0 9 "Wattgovern$Amount" "parts" "[J", .fieldLink RX0 15 "Wattgovern$Amount" "used" "I", .methodLink RX0 38 Lib.Math.max.name, .static Lib.Math.max.name, .initialized "java/lang/Math", .code Lib.Math.max.name Lib.Math.max.code 2 (some .int), .methodLink RX0 44 Lib.Math.min.name, .static Lib.Math.min.name, .code Lib.Math.min.name Lib.Math.min.code 2 (some .int)] ++ wsX00)
def wsX0_dropZeros : List Cond := .code yX0_dropZeros cX0_dropZeros 1 none :: ([.fieldLink RX0 15 "Wattgovern$Amount" "used" "I", .fieldLink RX0 9 "Wattgovern$Amount" "parts" "[J"] ++ wsX00)
def wsX0_become : List Cond := .code yX0_become cX0_become 4 none :: ([.fieldLink RX0 9 "Wattgovern$Amount" "parts" "[J", .fieldLink RX0 15 "Wattgovern$Amount" "used" "I", .methodLink RX0 19 yX0_reach, .instanceMethod yX0_reach, .selects RX0 yX0_reach yX0_reach, .initialized RX0, .code yX0_reach cX0_reach 2 (some .int), .methodLink RX0 38 Lib.Math.max.name, .static Lib.Math.max.name, .initialized "java/lang/Math", .code Lib.Math.max.name Lib.Math.max.code 2 (some .int), .methodLink RX0 44 Lib.Math.min.name, .static Lib.Math.min.name, .code Lib.Math.min.name Lib.Math.min.code 2 (some .int), .methodLink RX0 23 yX0_dropZeros, .instanceMethod yX0_dropZeros, .selects RX0 yX0_dropZeros yX0_dropZeros, .code yX0_dropZeros cX0_dropZeros 1 none] ++ wsX00)
def wsX0_becomeSame : List Cond := .code yX0_becomeSame cX0_becomeSame 4 none :: ([.fieldLink RX0 9 "Wattgovern$Amount" "parts" "[J", .fieldLink RX0 15 "Wattgovern$Amount" "used" "I", .methodLink RX0 19 yX0_reach, .instanceMethod yX0_reach, .selects RX0 yX0_reach yX0_reach, .initialized RX0, .code yX0_reach cX0_reach 2 (some .int), .methodLink RX0 38 Lib.Math.max.name, .static Lib.Math.max.name, .initialized "java/lang/Math", .code Lib.Math.max.name Lib.Math.max.code 2 (some .int), .methodLink RX0 44 Lib.Math.min.name, .static Lib.Math.min.name, .code Lib.Math.min.name Lib.Math.min.code 2 (some .int), .methodLink RX0 23 yX0_dropZeros, .instanceMethod yX0_dropZeros, .selects RX0 yX0_dropZeros yX0_dropZeros, .code yX0_dropZeros cX0_dropZeros 1 none] ++ wsX00)
def wsX0_putOnTop : List Cond := .code yX0_putOnTop cX0_putOnTop 3 none :: ([.fieldLink RX0 15 "Wattgovern$Amount" "used" "I", .fieldLink RX0 9 "Wattgovern$Amount" "parts" "[J", .methodLink RX0 23 yX0_dropZeros, .instanceMethod yX0_dropZeros, .selects RX0 yX0_dropZeros yX0_dropZeros, .initialized RX0, .code yX0_dropZeros cX0_dropZeros 1 none] ++ wsX00)
def wsX0_becomeProduct : List Cond := .code yX0_becomeProduct cX0_becomeProduct 7 none :: ([.fieldLink RX0 9 "Wattgovern$Amount" "parts" "[J", .constantLong RX0 26 (4294967295), .fieldLink RX0 15 "Wattgovern$Amount" "used" "I", .methodLink RX0 19 yX0_reach, .instanceMethod yX0_reach, .selects RX0 yX0_reach yX0_reach, .initialized RX0, .code yX0_reach cX0_reach 2 (some .int), .methodLink RX0 38 Lib.Math.max.name, .static Lib.Math.max.name, .initialized "java/lang/Math", .code Lib.Math.max.name Lib.Math.max.code 2 (some .int), .methodLink RX0 44 Lib.Math.min.name, .static Lib.Math.min.name, .code Lib.Math.min.name Lib.Math.min.code 2 (some .int), .methodLink RX0 28 yX0_putOnTop, .instanceMethod yX0_putOnTop, .selects RX0 yX0_putOnTop yX0_putOnTop, .code yX0_putOnTop cX0_putOnTop 3 none, .methodLink RX0 23 yX0_dropZeros, .instanceMethod yX0_dropZeros, .selects RX0 yX0_dropZeros yX0_dropZeros, .code yX0_dropZeros cX0_dropZeros 1 none] ++ wsX00)
def wsX0_becomeQuotient : List Cond := .code yX0_becomeQuotient cX0_becomeQuotient 6 none :: ([.fieldLink RX0 15 "Wattgovern$Amount" "used" "I", .fieldLink RX0 9 "Wattgovern$Amount" "parts" "[J", .methodLink RX0 19 yX0_reach, .instanceMethod yX0_reach, .selects RX0 yX0_reach yX0_reach, .initialized RX0, .code yX0_reach cX0_reach 2 (some .int), .methodLink RX0 38 Lib.Math.max.name, .static Lib.Math.max.name, .initialized "java/lang/Math", .code Lib.Math.max.name Lib.Math.max.code 2 (some .int), .methodLink RX0 44 Lib.Math.min.name, .static Lib.Math.min.name, .code Lib.Math.min.name Lib.Math.min.code 2 (some .int), .methodLink RX0 23 yX0_dropZeros, .instanceMethod yX0_dropZeros, .selects RX0 yX0_dropZeros yX0_dropZeros, .code yX0_dropZeros cX0_dropZeros 1 none] ++ wsX00)
def wsX0_add : List Cond := .code yX0_add cX0_add 6 none :: ([.fieldLink RX0 9 "Wattgovern$Amount" "parts" "[J", .constantLong RX0 26 (4294967295), .fieldLink RX0 15 "Wattgovern$Amount" "used" "I", .methodLink RX0 19 yX0_reach, .instanceMethod yX0_reach, .selects RX0 yX0_reach yX0_reach, .initialized RX0, .code yX0_reach cX0_reach 2 (some .int), .methodLink RX0 38 Lib.Math.max.name, .static Lib.Math.max.name, .initialized "java/lang/Math", .code Lib.Math.max.name Lib.Math.max.code 2 (some .int), .methodLink RX0 44 Lib.Math.min.name, .static Lib.Math.min.name, .code Lib.Math.min.name Lib.Math.min.code 2 (some .int), .methodLink RX0 28 yX0_putOnTop, .instanceMethod yX0_putOnTop, .selects RX0 yX0_putOnTop yX0_putOnTop, .code yX0_putOnTop cX0_putOnTop 3 none, .methodLink RX0 23 yX0_dropZeros, .instanceMethod yX0_dropZeros, .selects RX0 yX0_dropZeros yX0_dropZeros, .code yX0_dropZeros cX0_dropZeros 1 none] ++ wsX00)
def wsX0_takeAway : List Cond := .code yX0_takeAway cX0_takeAway 6 none :: ([.fieldLink RX0 9 "Wattgovern$Amount" "parts" "[J", .constantLong RX0 26 (4294967295), .methodLink RX0 19 yX0_reach, .instanceMethod yX0_reach, .selects RX0 yX0_reach yX0_reach, .initialized RX0, .code yX0_reach cX0_reach 2 (some .int), .fieldLink RX0 15 "Wattgovern$Amount" "used" "I", .methodLink RX0 38 Lib.Math.max.name, .static Lib.Math.max.name, .initialized "java/lang/Math", .code Lib.Math.max.name Lib.Math.max.code 2 (some .int), .methodLink RX0 44 Lib.Math.min.name, .static Lib.Math.min.name, .code Lib.Math.min.name Lib.Math.min.code 2 (some .int), .methodLink RX0 23 yX0_dropZeros, .instanceMethod yX0_dropZeros, .selects RX0 yX0_dropZeros yX0_dropZeros, .code yX0_dropZeros cX0_dropZeros 1 none] ++ wsX00)
def wsX0_isLess : List Cond := .code yX0_isLess cX0_isLess 3 (some .boolean) :: ([.fieldLink RX0 9 "Wattgovern$Amount" "parts" "[J", .methodLink RX0 19 yX0_reach, .instanceMethod yX0_reach, .selects RX0 yX0_reach yX0_reach, .initialized RX0, .code yX0_reach cX0_reach 2 (some .int), .fieldLink RX0 15 "Wattgovern$Amount" "used" "I", .methodLink RX0 38 Lib.Math.max.name, .static Lib.Math.max.name, .initialized "java/lang/Math", .code Lib.Math.max.name Lib.Math.max.code 2 (some .int), .methodLink RX0 44 Lib.Math.min.name, .static Lib.Math.min.name, .code Lib.Math.min.name Lib.Math.min.code 2 (some .int)] ++ wsX00)
def wsX0_upTo : List Cond := .code yX0_upTo cX0_upTo 2 (some .int) :: ([.fieldLink RX0 15 "Wattgovern$Amount" "used" "I", .fieldLink RX0 9 "Wattgovern$Amount" "parts" "[J"] ++ wsX00)
def wsX0_lowBits : List Cond := .code yX0_lowBits cX0_lowBits 1 (some .long) :: ([.fieldLink RX0 9 "Wattgovern$Amount" "parts" "[J"] ++ wsX00)
def wsX0_toDouble : List Cond := .code yX0_toDouble cX0_toDouble 8 (some .double) :: ([.fieldLink RX0 9 "Wattgovern$Amount" "parts" "[J", .constantLong RX0 32 (2305843009213693952), .constantLong RX0 34 (2), .constantDouble RX0 36 (4611686018427387904), .methodLink RX0 19 yX0_reach, .instanceMethod yX0_reach, .selects RX0 yX0_reach yX0_reach, .initialized RX0, .code yX0_reach cX0_reach 2 (some .int), .fieldLink RX0 15 "Wattgovern$Amount" "used" "I", .methodLink RX0 38 Lib.Math.max.name, .static Lib.Math.max.name, .initialized "java/lang/Math", .code Lib.Math.max.name Lib.Math.max.code 2 (some .int), .methodLink RX0 44 Lib.Math.min.name, .static Lib.Math.min.name, .code Lib.Math.min.name Lib.Math.min.code 2 (some .int)] ++ wsX00)
def wsX1_init_r1 : List Cond := [Cond.methodLink RX1 1 objectInit, Cond.instanceMethod objectInit, Cond.code objectInit ⟨#[0xb1]⟩ 1 none, Cond.classLink RX1 7 RX0, Cond.instantiable RX0 2, Cond.initialized RX0, Cond.fieldLink RX1 10 "Wattgovern$Body" "heat" "LWattgovern$Amount;", Cond.fieldLink RX1 16 "Wattgovern$Body" "degrees" "LWattgovern$Amount;", Cond.fieldLink RX1 19 "Wattgovern$Body" "heatOfDegree" "I", Cond.instanceMethod yX0_init, Cond.code yX0_init cX0_init 1 none, Cond.methodLink RX0 3 objectInit, Cond.arrayClass .long, Cond.fieldLink RX0 9 "Wattgovern$Amount" "parts" "[J", Cond.fieldLink RX0 15 "Wattgovern$Amount" "used" "I", Cond.methodLink RX1 23 yX0_become, Cond.instanceMethod yX0_become, Cond.selects RX0 yX0_become yX0_become, Cond.code yX0_become cX0_become 4 none, Cond.methodLink RX0 19 yX0_reach, Cond.instanceMethod yX0_reach, Cond.selects RX0 yX0_reach yX0_reach, Cond.code yX0_reach cX0_reach 2 (some .int), Cond.methodLink RX0 38 Lib.Math.max.name]
def wsX1_init_r2 : List Cond := [Cond.static Lib.Math.max.name, Cond.initialized "java/lang/Math", Cond.code Lib.Math.max.name Lib.Math.max.code 2 (some .int), Cond.methodLink RX0 44 Lib.Math.min.name, Cond.static Lib.Math.min.name, Cond.code Lib.Math.min.name Lib.Math.min.code 2 (some .int), Cond.methodLink RX0 23 yX0_dropZeros, Cond.instanceMethod yX0_dropZeros, Cond.selects RX0 yX0_dropZeros yX0_dropZeros, Cond.code yX0_dropZeros cX0_dropZeros 1 none, Cond.methodLink RX1 27 yX0_becomeQuotient, Cond.instanceMethod yX0_becomeQuotient, Cond.selects RX0 yX0_becomeQuotient yX0_becomeQuotient, Cond.code yX0_becomeQuotient cX0_becomeQuotient 6 none]
def wsX1_init : List Cond := .code yX1_init cX1_init 3 none :: ((wsX1_init_r1 ++ wsX1_init_r2) ++ wsX00 ++ wsX10)
def wsX1_gain_r1 : List Cond := [Cond.fieldLink RX1 10 "Wattgovern$Body" "heat" "LWattgovern$Amount;", Cond.fieldLink RX1 16 "Wattgovern$Body" "degrees" "LWattgovern$Amount;", Cond.fieldLink RX1 19 "Wattgovern$Body" "heatOfDegree" "I", Cond.methodLink RX1 31 yX0_add, Cond.instanceMethod yX0_add, Cond.selects RX0 yX0_add yX0_add, Cond.initialized RX0, Cond.code yX0_add cX0_add 6 none, Cond.fieldLink RX0 9 "Wattgovern$Amount" "parts" "[J", Cond.constantLong RX0 26 (4294967295), Cond.fieldLink RX0 15 "Wattgovern$Amount" "used" "I", Cond.methodLink RX0 19 yX0_reach, Cond.instanceMethod yX0_reach, Cond.selects RX0 yX0_reach yX0_reach, Cond.code yX0_reach cX0_reach 2 (some .int), Cond.methodLink RX0 38 Lib.Math.max.name, Cond.static Lib.Math.max.name, Cond.initialized "java/lang/Math", Cond.code Lib.Math.max.name Lib.Math.max.code 2 (some .int), Cond.methodLink RX0 44 Lib.Math.min.name, Cond.static Lib.Math.min.name, Cond.code Lib.Math.min.name Lib.Math.min.code 2 (some .int), Cond.methodLink RX0 28 yX0_putOnTop, Cond.instanceMethod yX0_putOnTop]
def wsX1_gain_r2 : List Cond := [Cond.selects RX0 yX0_putOnTop yX0_putOnTop, Cond.code yX0_putOnTop cX0_putOnTop 3 none, Cond.methodLink RX0 23 yX0_dropZeros, Cond.instanceMethod yX0_dropZeros, Cond.selects RX0 yX0_dropZeros yX0_dropZeros, Cond.code yX0_dropZeros cX0_dropZeros 1 none, Cond.methodLink RX1 27 yX0_becomeQuotient, Cond.instanceMethod yX0_becomeQuotient, Cond.selects RX0 yX0_becomeQuotient yX0_becomeQuotient, Cond.code yX0_becomeQuotient cX0_becomeQuotient 6 none]
def wsX1_gain : List Cond := .code yX1_gain cX1_gain 2 none :: ((wsX1_gain_r1 ++ wsX1_gain_r2) ++ wsX10 ++ wsX00)
def wsX1_giveAway_r1 : List Cond := [Cond.fieldLink RX1 10 "Wattgovern$Body" "heat" "LWattgovern$Amount;", Cond.fieldLink RX1 16 "Wattgovern$Body" "degrees" "LWattgovern$Amount;", Cond.fieldLink RX1 19 "Wattgovern$Body" "heatOfDegree" "I", Cond.methodLink RX1 35 yX0_takeAway, Cond.instanceMethod yX0_takeAway, Cond.selects RX0 yX0_takeAway yX0_takeAway, Cond.initialized RX0, Cond.code yX0_takeAway cX0_takeAway 6 none, Cond.fieldLink RX0 9 "Wattgovern$Amount" "parts" "[J", Cond.constantLong RX0 26 (4294967295), Cond.methodLink RX0 19 yX0_reach, Cond.instanceMethod yX0_reach, Cond.selects RX0 yX0_reach yX0_reach, Cond.code yX0_reach cX0_reach 2 (some .int), Cond.fieldLink RX0 15 "Wattgovern$Amount" "used" "I", Cond.methodLink RX0 38 Lib.Math.max.name, Cond.static Lib.Math.max.name, Cond.initialized "java/lang/Math", Cond.code Lib.Math.max.name Lib.Math.max.code 2 (some .int), Cond.methodLink RX0 44 Lib.Math.min.name, Cond.static Lib.Math.min.name, Cond.code Lib.Math.min.name Lib.Math.min.code 2 (some .int), Cond.methodLink RX0 23 yX0_dropZeros, Cond.instanceMethod yX0_dropZeros]
def wsX1_giveAway_r2 : List Cond := [Cond.selects RX0 yX0_dropZeros yX0_dropZeros, Cond.code yX0_dropZeros cX0_dropZeros 1 none, Cond.methodLink RX1 27 yX0_becomeQuotient, Cond.instanceMethod yX0_becomeQuotient, Cond.selects RX0 yX0_becomeQuotient yX0_becomeQuotient, Cond.code yX0_becomeQuotient cX0_becomeQuotient 6 none]
def wsX1_giveAway : List Cond := .code yX1_giveAway cX1_giveAway 2 none :: ((wsX1_giveAway_r1 ++ wsX1_giveAway_r2) ++ wsX10 ++ wsX00)
def wsX2_init_r1 : List Cond := [Cond.methodLink RX2 3 objectInit, Cond.instanceMethod objectInit, Cond.code objectInit ⟨#[0xb1]⟩ 1 none, Cond.classLink RX2 9 RX1, Cond.instantiable RX1 3, Cond.initialized RX1, Cond.fieldLink RX2 14 "Wattgovern$Cooling" "box" "LWattgovern$Body;", Cond.classLink RX2 20 RX0, Cond.instantiable RX0 2, Cond.initialized RX0, Cond.fieldLink RX2 23 "Wattgovern$Cooling" "airDegrees" "LWattgovern$Amount;", Cond.fieldLink RX2 27 "Wattgovern$Cooling" "givenToAir" "J", Cond.fieldLink RX2 31 "Wattgovern$Cooling" "fanLevel" "I", Cond.fieldLink RX2 35 "Wattgovern$Cooling" "fanDead" "Z", Cond.methodLink RX2 11 yX1_init, Cond.instanceMethod yX1_init, Cond.code yX1_init cX1_init 3 none, Cond.methodLink RX1 1 objectInit, Cond.classLink RX1 7 RX0, Cond.fieldLink RX1 10 "Wattgovern$Body" "heat" "LWattgovern$Amount;", Cond.fieldLink RX1 16 "Wattgovern$Body" "degrees" "LWattgovern$Amount;", Cond.fieldLink RX1 19 "Wattgovern$Body" "heatOfDegree" "I", Cond.instanceMethod yX0_init, Cond.code yX0_init cX0_init 1 none]
def wsX2_init_r2 : List Cond := [Cond.methodLink RX0 3 objectInit, Cond.arrayClass .long, Cond.fieldLink RX0 9 "Wattgovern$Amount" "parts" "[J", Cond.fieldLink RX0 15 "Wattgovern$Amount" "used" "I", Cond.methodLink RX1 23 yX0_become, Cond.instanceMethod yX0_become, Cond.selects RX0 yX0_become yX0_become, Cond.code yX0_become cX0_become 4 none, Cond.methodLink RX0 19 yX0_reach, Cond.instanceMethod yX0_reach, Cond.selects RX0 yX0_reach yX0_reach, Cond.code yX0_reach cX0_reach 2 (some .int), Cond.methodLink RX0 38 Lib.Math.max.name, Cond.static Lib.Math.max.name, Cond.initialized "java/lang/Math", Cond.code Lib.Math.max.name Lib.Math.max.code 2 (some .int), Cond.methodLink RX0 44 Lib.Math.min.name, Cond.static Lib.Math.min.name, Cond.code Lib.Math.min.name Lib.Math.min.code 2 (some .int), Cond.methodLink RX0 23 yX0_dropZeros, Cond.instanceMethod yX0_dropZeros, Cond.selects RX0 yX0_dropZeros yX0_dropZeros, Cond.code yX0_dropZeros cX0_dropZeros 1 none, Cond.methodLink RX1 27 yX0_becomeQuotient]
def wsX2_init_r3 : List Cond := [Cond.instanceMethod yX0_becomeQuotient, Cond.selects RX0 yX0_becomeQuotient yX0_becomeQuotient, Cond.code yX0_becomeQuotient cX0_becomeQuotient 6 none, Cond.methodLink RX2 39 yX0_become]
def wsX2_init : List Cond := .code yX2_init cX2_init 1 none :: ((wsX2_init_r1 ++ (wsX2_init_r2 ++ wsX2_init_r3)) ++ wsX10 ++ wsX20 ++ wsX00)
def wsX2_giveToAir_r1 : List Cond := [Cond.fieldLink RX2 14 "Wattgovern$Cooling" "box" "LWattgovern$Body;", Cond.fieldLink RX2 43 "Wattgovern$Body" "degrees" "LWattgovern$Amount;", Cond.fieldLink RX2 23 "Wattgovern$Cooling" "airDegrees" "LWattgovern$Amount;", Cond.fieldLink RX2 31 "Wattgovern$Cooling" "fanLevel" "I", Cond.fieldLink RX2 27 "Wattgovern$Cooling" "givenToAir" "J", Cond.methodLink RX2 46 yX0_becomeSame, Cond.instanceMethod yX0_becomeSame, Cond.selects RX0 yX0_becomeSame yX0_becomeSame, Cond.initialized RX0, Cond.code yX0_becomeSame cX0_becomeSame 4 none, Cond.fieldLink RX0 9 "Wattgovern$Amount" "parts" "[J", Cond.fieldLink RX0 15 "Wattgovern$Amount" "used" "I", Cond.methodLink RX0 19 yX0_reach, Cond.instanceMethod yX0_reach, Cond.selects RX0 yX0_reach yX0_reach, Cond.code yX0_reach cX0_reach 2 (some .int), Cond.methodLink RX0 38 Lib.Math.max.name, Cond.static Lib.Math.max.name, Cond.initialized "java/lang/Math", Cond.code Lib.Math.max.name Lib.Math.max.code 2 (some .int), Cond.methodLink RX0 44 Lib.Math.min.name, Cond.static Lib.Math.min.name, Cond.code Lib.Math.min.name Lib.Math.min.code 2 (some .int), Cond.methodLink RX0 23 yX0_dropZeros]
def wsX2_giveToAir_r2 : List Cond := [Cond.instanceMethod yX0_dropZeros, Cond.selects RX0 yX0_dropZeros yX0_dropZeros, Cond.code yX0_dropZeros cX0_dropZeros 1 none, Cond.methodLink RX2 50 yX0_takeAway, Cond.instanceMethod yX0_takeAway, Cond.selects RX0 yX0_takeAway yX0_takeAway, Cond.code yX0_takeAway cX0_takeAway 6 none, Cond.constantLong RX0 26 (4294967295), Cond.methodLink RX2 53 yX0_becomeProduct, Cond.instanceMethod yX0_becomeProduct, Cond.selects RX0 yX0_becomeProduct yX0_becomeProduct, Cond.code yX0_becomeProduct cX0_becomeProduct 7 none, Cond.methodLink RX0 28 yX0_putOnTop, Cond.instanceMethod yX0_putOnTop, Cond.selects RX0 yX0_putOnTop yX0_putOnTop, Cond.code yX0_putOnTop cX0_putOnTop 3 none, Cond.methodLink RX2 57 yX0_becomeQuotient, Cond.instanceMethod yX0_becomeQuotient, Cond.selects RX0 yX0_becomeQuotient yX0_becomeQuotient, Cond.code yX0_becomeQuotient cX0_becomeQuotient 6 none, Cond.methodLink RX2 60 yX1_giveAway, Cond.instanceMethod yX1_giveAway, Cond.selects RX1 yX1_giveAway yX1_giveAway, Cond.initialized RX1]
def wsX2_giveToAir_r3 : List Cond := [Cond.code yX1_giveAway cX1_giveAway 2 none, Cond.fieldLink RX1 10 "Wattgovern$Body" "heat" "LWattgovern$Amount;", Cond.fieldLink RX1 16 "Wattgovern$Body" "degrees" "LWattgovern$Amount;", Cond.fieldLink RX1 19 "Wattgovern$Body" "heatOfDegree" "I", Cond.methodLink RX1 35 yX0_takeAway, Cond.methodLink RX1 27 yX0_becomeQuotient, Cond.methodLink RX2 63 yX0_lowBits, Cond.instanceMethod yX0_lowBits, Cond.selects RX0 yX0_lowBits yX0_lowBits, Cond.code yX0_lowBits cX0_lowBits 1 (some .long)]
def wsX2_giveToAir : List Cond := .code yX2_giveToAir cX2_giveToAir 2 none :: ((wsX2_giveToAir_r1 ++ (wsX2_giveToAir_r2 ++ wsX2_giveToAir_r3)) ++ wsX20 ++ wsX10 ++ wsX00)
def wsX2_stepFan : List Cond := .code yX2_stepFan cX2_stepFan 2 none :: ([.fieldLink RX2 35 "Wattgovern$Cooling" "fanDead" "Z", .fieldLink RX2 14 "Wattgovern$Cooling" "box" "LWattgovern$Body;", .fieldLink RX2 43 "Wattgovern$Body" "degrees" "LWattgovern$Amount;", .fieldLink RX2 31 "Wattgovern$Cooling" "fanLevel" "I", .methodLink RX2 67 yX0_upTo, .instanceMethod yX0_upTo, .selects RX0 yX0_upTo yX0_upTo, .initialized RX0, .code yX0_upTo cX0_upTo 2 (some .int), .fieldLink RX0 15 "Wattgovern$Amount" "used" "I", .fieldLink RX0 9 "Wattgovern$Amount" "parts" "[J"] ++ wsX20 ++ wsX10 ++ wsX00)
def wsX2_runFan : List Cond := .code yX2_runFan cX2_runFan 2 (some .int) :: ([.fieldLink RX2 31 "Wattgovern$Cooling" "fanLevel" "I", .fieldLink RX2 27 "Wattgovern$Cooling" "givenToAir" "J"] ++ wsX20)
def wsX3_init_r1 : List Cond := [Cond.methodLink RX3 3 objectInit, Cond.instanceMethod objectInit, Cond.code objectInit ⟨#[0xb1]⟩ 1 none, Cond.fieldLink RX3 9 "Wattgovern$Core" "governor" "C", Cond.fieldLink RX3 15 "Wattgovern$Core" "fixedSpeed" "I", Cond.fieldLink RX3 19 "Wattgovern$Core" "wanted" "I", Cond.fieldLink RX3 22 "Wattgovern$Core" "mayHave" "I", Cond.fieldLink RX3 25 "Wattgovern$Core" "speed" "I", Cond.fieldLink RX3 28 "Wattgovern$Core" "clamp" "C", Cond.fieldLink RX3 31 "Wattgovern$Core" "sleep" "C", Cond.fieldLink RX3 34 "Wattgovern$Core" "idleTicks" "I", Cond.fieldLink RX3 37 "Wattgovern$Core" "ticksToWake" "I", Cond.fieldLink RX3 40 "Wattgovern$Core" "wasDeep" "Z", Cond.fieldLink RX3 44 "Wattgovern$Core" "busy" "Z", Cond.fieldLink RX3 47 "Wattgovern$Core" "wasBusy" "Z", Cond.classLink RX3 50 RX1, Cond.instantiable RX1 3, Cond.initialized RX1, Cond.fieldLink RX3 55 "Wattgovern$Core" "body" "LWattgovern$Body;", Cond.fieldLink RX3 59 "Wattgovern$Core" "sensorTells" "I", Cond.fieldLink RX3 62 "Wattgovern$Core" "sensorLost" "Z", Cond.fieldLink RX3 65 "Wattgovern$Core" "tripped" "Z", Cond.fieldLink RX3 68 "Wattgovern$Core" "worn" "I", Cond.fieldLink RX3 71 "Wattgovern$Core" "number" "I"]
def wsX3_init_r2 : List Cond := [Cond.fieldLink RX3 74 "Wattgovern$Core" "rail" "LWattgovern$Rail;", Cond.fieldLink RX3 78 "Wattgovern$Core" "big" "Z", Cond.methodLink RX3 52 yX1_init, Cond.instanceMethod yX1_init, Cond.code yX1_init cX1_init 3 none, Cond.methodLink RX1 1 objectInit, Cond.classLink RX1 7 RX0, Cond.instantiable RX0 2, Cond.initialized RX0, Cond.fieldLink RX1 10 "Wattgovern$Body" "heat" "LWattgovern$Amount;", Cond.fieldLink RX1 16 "Wattgovern$Body" "degrees" "LWattgovern$Amount;", Cond.fieldLink RX1 19 "Wattgovern$Body" "heatOfDegree" "I", Cond.instanceMethod yX0_init, Cond.code yX0_init cX0_init 1 none, Cond.methodLink RX0 3 objectInit, Cond.arrayClass .long, Cond.fieldLink RX0 9 "Wattgovern$Amount" "parts" "[J", Cond.fieldLink RX0 15 "Wattgovern$Amount" "used" "I", Cond.methodLink RX1 23 yX0_become, Cond.instanceMethod yX0_become, Cond.selects RX0 yX0_become yX0_become, Cond.code yX0_become cX0_become 4 none, Cond.methodLink RX0 19 yX0_reach, Cond.instanceMethod yX0_reach]
def wsX3_init_r3 : List Cond := [Cond.selects RX0 yX0_reach yX0_reach, Cond.code yX0_reach cX0_reach 2 (some .int), Cond.methodLink RX0 38 Lib.Math.max.name, Cond.static Lib.Math.max.name, Cond.initialized "java/lang/Math", Cond.code Lib.Math.max.name Lib.Math.max.code 2 (some .int), Cond.methodLink RX0 44 Lib.Math.min.name, Cond.static Lib.Math.min.name, Cond.code Lib.Math.min.name Lib.Math.min.code 2 (some .int), Cond.methodLink RX0 23 yX0_dropZeros, Cond.instanceMethod yX0_dropZeros, Cond.selects RX0 yX0_dropZeros yX0_dropZeros, Cond.code yX0_dropZeros cX0_dropZeros 1 none, Cond.methodLink RX1 27 yX0_becomeQuotient, Cond.instanceMethod yX0_becomeQuotient, Cond.selects RX0 yX0_becomeQuotient yX0_becomeQuotient, Cond.code yX0_becomeQuotient cX0_becomeQuotient 6 none]
def wsX3_init : List Cond := .code yX3_init cX3_init 4 none :: ((wsX3_init_r1 ++ (wsX3_init_r2 ++ wsX3_init_r3)) ++ wsX30 ++ wsX10 ++ wsX00)
def wsX3_inAge : List Cond := .code yX3_inAge cX3_inAge 1 (some .int) :: ([.fieldLink RX3 68 "Wattgovern$Core" "worn" "I"] ++ wsX30)
def wsX3_isTooOld : List Cond := .code yX3_isTooOld cX3_isTooOld 1 (some .boolean) :: ([.methodLink RX3 81 yX3_inAge, .instanceMethod yX3_inAge, .selects RX3 yX3_inAge yX3_inAge, .initialized RX3, .code yX3_inAge cX3_inAge 1 (some .int), .fieldLink RX3 68 "Wattgovern$Core" "worn" "I"] ++ wsX30)
def wsX3_greatestSpeed : List Cond := .code yX3_greatestSpeed cX3_greatestSpeed 1 (some .int) :: ([.fieldLink RX3 78 "Wattgovern$Core" "big" "Z"] ++ wsX30)
def wsX3_workOfOneSpeed : List Cond := .code yX3_workOfOneSpeed cX3_workOfOneSpeed 1 (some .int) :: ([.fieldLink RX3 78 "Wattgovern$Core" "big" "Z"] ++ wsX30)
def wsX3_voltsFor : List Cond := .code yX3_voltsFor cX3_voltsFor 3 (some .int) :: ([.fieldLink RX3 55 "Wattgovern$Core" "body" "LWattgovern$Body;", .fieldLink RX3 85 "Wattgovern$Body" "degrees" "LWattgovern$Amount;", .methodLink RX3 89 yX0_upTo, .instanceMethod yX0_upTo, .selects RX0 yX0_upTo yX0_upTo, .initialized RX0, .code yX0_upTo cX0_upTo 2 (some .int), .fieldLink RX0 15 "Wattgovern$Amount" "used" "I", .fieldLink RX0 9 "Wattgovern$Amount" "parts" "[J", .methodLink RX3 81 yX3_inAge, .instanceMethod yX3_inAge, .selects RX3 yX3_inAge yX3_inAge, .initialized RX3, .code yX3_inAge cX3_inAge 1 (some .int), .fieldLink RX3 68 "Wattgovern$Core" "worn" "I"] ++ wsX30 ++ wsX10 ++ wsX00)
def wsX3_noteBusy : List Cond := .code yX3_noteBusy cX3_noteBusy 2 none :: ([.fieldLink RX3 44 "Wattgovern$Core" "busy" "Z", .fieldLink RX3 47 "Wattgovern$Core" "wasBusy" "Z"] ++ wsX30)
def wsX3_readSensor : List Cond := .code yX3_readSensor cX3_readSensor 2 none :: ([.fieldLink RX3 55 "Wattgovern$Core" "body" "LWattgovern$Body;", .fieldLink RX3 85 "Wattgovern$Body" "degrees" "LWattgovern$Amount;", .fieldLink RX3 59 "Wattgovern$Core" "sensorTells" "I", .methodLink RX3 95 yX0_lowBits, .instanceMethod yX0_lowBits, .selects RX0 yX0_lowBits yX0_lowBits, .initialized RX0, .code yX0_lowBits cX0_lowBits 1 (some .long), .fieldLink RX0 9 "Wattgovern$Amount" "parts" "[J"] ++ wsX30 ++ wsX10 ++ wsX00)
def wsX3_tripAndWear : List Cond := .code yX3_tripAndWear cX3_tripAndWear 2 none :: ([.fieldLink RX3 55 "Wattgovern$Core" "body" "LWattgovern$Body;", .fieldLink RX3 85 "Wattgovern$Body" "degrees" "LWattgovern$Amount;", .fieldLink RX3 65 "Wattgovern$Core" "tripped" "Z", .fieldLink RX3 68 "Wattgovern$Core" "worn" "I", .methodLink RX3 89 yX0_upTo, .instanceMethod yX0_upTo, .selects RX0 yX0_upTo yX0_upTo, .initialized RX0, .code yX0_upTo cX0_upTo 2 (some .int), .fieldLink RX0 15 "Wattgovern$Amount" "used" "I", .fieldLink RX0 9 "Wattgovern$Amount" "parts" "[J"] ++ wsX30 ++ wsX10 ++ wsX00)
def wsX3_countIdle : List Cond := .code yX3_countIdle cX3_countIdle 1 none :: ([.fieldLink RX3 34 "Wattgovern$Core" "idleTicks" "I", .fieldLink RX3 31 "Wattgovern$Core" "sleep" "C"] ++ wsX30)
def wsX3_beginToWake : List Cond := .code yX3_beginToWake cX3_beginToWake 1 none :: ([.fieldLink RX3 31 "Wattgovern$Core" "sleep" "C", .fieldLink RX3 40 "Wattgovern$Core" "wasDeep" "Z", .fieldLink RX3 37 "Wattgovern$Core" "ticksToWake" "I"] ++ wsX30)
def wsX3_wish : List Cond := .code yX3_wish cX3_wish 3 none :: ([.fieldLink RX3 15 "Wattgovern$Core" "fixedSpeed" "I", .fieldLink RX3 9 "Wattgovern$Core" "governor" "C", .fieldLink RX3 47 "Wattgovern$Core" "wasBusy" "Z", .fieldLink RX3 25 "Wattgovern$Core" "speed" "I", .methodLink RX3 102 Lib.Math.min.name, .static Lib.Math.min.name, .initialized "java/lang/Math", .code Lib.Math.min.name Lib.Math.min.code 2 (some .int), .methodLink RX3 108 Lib.Math.max.name, .static Lib.Math.max.name, .code Lib.Math.max.name Lib.Math.max.code 2 (some .int), .fieldLink RX3 19 "Wattgovern$Core" "wanted" "I", .methodLink RX3 99 yX3_greatestSpeed, .instanceMethod yX3_greatestSpeed, .selects RX3 yX3_greatestSpeed yX3_greatestSpeed, .initialized RX3, .code yX3_greatestSpeed cX3_greatestSpeed 1 (some .int), .fieldLink RX3 78 "Wattgovern$Core" "big" "Z"] ++ wsX30)
def wsX3_limit : List Cond := .code yX3_limit cX3_limit 3 none :: ([.fieldLink RX3 22 "Wattgovern$Core" "mayHave" "I", .fieldLink RX3 28 "Wattgovern$Core" "clamp" "C"] ++ wsX30)
def wsX3_setSpeed : List Cond := .code yX3_setSpeed cX3_setSpeed 1 none :: ([.fieldLink RX3 22 "Wattgovern$Core" "mayHave" "I", .fieldLink RX3 25 "Wattgovern$Core" "speed" "I", .fieldLink RX3 74 "Wattgovern$Core" "rail" "LWattgovern$Rail;", .fieldLink RX3 114 "Wattgovern$Rail" "millivolts" "I", .methodLink RX3 111 yX3_voltsFor, .instanceMethod yX3_voltsFor, .selects RX3 yX3_voltsFor yX3_voltsFor, .initialized RX3, .code yX3_voltsFor cX3_voltsFor 3 (some .int), .fieldLink RX3 55 "Wattgovern$Core" "body" "LWattgovern$Body;", .fieldLink RX3 85 "Wattgovern$Body" "degrees" "LWattgovern$Amount;", .methodLink RX3 89 yX0_upTo, .instanceMethod yX0_upTo, .selects RX0 yX0_upTo yX0_upTo, .initialized RX0, .code yX0_upTo cX0_upTo 2 (some .int), .fieldLink RX0 15 "Wattgovern$Amount" "used" "I", .fieldLink RX0 9 "Wattgovern$Amount" "parts" "[J", .methodLink RX3 81 yX3_inAge, .instanceMethod yX3_inAge, .selects RX3 yX3_inAge yX3_inAge, .code yX3_inAge cX3_inAge 1 (some .int), .fieldLink RX3 68 "Wattgovern$Core" "worn" "I"] ++ wsX30 ++ wsX40 ++ wsX10 ++ wsX00)
def wsX3_powerOfSpeed : List Cond := .code yX3_powerOfSpeed cX3_powerOfSpeed 1 (some .int) :: ([.fieldLink RX3 25 "Wattgovern$Core" "speed" "I", .fieldLink RX3 74 "Wattgovern$Core" "rail" "LWattgovern$Rail;", .fieldLink RX3 114 "Wattgovern$Rail" "millivolts" "I", .fieldLink RX3 44 "Wattgovern$Core" "busy" "Z"] ++ wsX30 ++ wsX40)
def wsX3_tellLeak_r1 : List Cond := [Cond.fieldLink RX3 31 "Wattgovern$Core" "sleep" "C", Cond.fieldLink RX3 55 "Wattgovern$Core" "body" "LWattgovern$Body;", Cond.fieldLink RX3 85 "Wattgovern$Body" "degrees" "LWattgovern$Amount;", Cond.fieldLink RX3 74 "Wattgovern$Core" "rail" "LWattgovern$Rail;", Cond.fieldLink RX3 114 "Wattgovern$Rail" "millivolts" "I", Cond.methodLink RX3 119 yX0_become, Cond.instanceMethod yX0_become, Cond.selects RX0 yX0_become yX0_become, Cond.initialized RX0, Cond.code yX0_become cX0_become 4 none, Cond.fieldLink RX0 9 "Wattgovern$Amount" "parts" "[J", Cond.fieldLink RX0 15 "Wattgovern$Amount" "used" "I", Cond.methodLink RX0 19 yX0_reach, Cond.instanceMethod yX0_reach, Cond.selects RX0 yX0_reach yX0_reach, Cond.code yX0_reach cX0_reach 2 (some .int), Cond.methodLink RX0 38 Lib.Math.max.name, Cond.static Lib.Math.max.name, Cond.initialized "java/lang/Math", Cond.code Lib.Math.max.name Lib.Math.max.code 2 (some .int), Cond.methodLink RX0 44 Lib.Math.min.name, Cond.static Lib.Math.min.name, Cond.code Lib.Math.min.name Lib.Math.min.code 2 (some .int), Cond.methodLink RX0 23 yX0_dropZeros]
def wsX3_tellLeak_r2 : List Cond := [Cond.instanceMethod yX0_dropZeros, Cond.selects RX0 yX0_dropZeros yX0_dropZeros, Cond.code yX0_dropZeros cX0_dropZeros 1 none, Cond.methodLink RX3 123 yX0_becomeProduct, Cond.instanceMethod yX0_becomeProduct, Cond.selects RX0 yX0_becomeProduct yX0_becomeProduct, Cond.code yX0_becomeProduct cX0_becomeProduct 7 none, Cond.constantLong RX0 26 (4294967295), Cond.methodLink RX0 28 yX0_putOnTop, Cond.instanceMethod yX0_putOnTop, Cond.selects RX0 yX0_putOnTop yX0_putOnTop, Cond.code yX0_putOnTop cX0_putOnTop 3 none, Cond.methodLink RX3 127 yX0_becomeQuotient, Cond.instanceMethod yX0_becomeQuotient, Cond.selects RX0 yX0_becomeQuotient yX0_becomeQuotient, Cond.code yX0_becomeQuotient cX0_becomeQuotient 6 none]
def wsX3_tellLeak : List Cond := .code yX3_tellLeak cX3_tellLeak 2 none :: ((wsX3_tellLeak_r1 ++ wsX3_tellLeak_r2) ++ wsX30 ++ wsX10 ++ wsX40 ++ wsX00)
def wsX4_init : List Cond := .code yX4_init cX4_init 1 none :: ([.methodLink RX4 3 objectInit, .instanceMethod objectInit, .code objectInit ⟨#[0xb1]⟩ 1 none, .fieldLink RX4 9 "Wattgovern$Rail" "millivolts" "I", .fieldLink RX4 15 "Wattgovern$Rail" "target" "I"] ++ wsX40)
def wsX4_goTowardsTarget : List Cond := .code yX4_goTowardsTarget cX4_goTowardsTarget 3 none :: ([.fieldLink RX4 9 "Wattgovern$Rail" "millivolts" "I", .fieldLink RX4 15 "Wattgovern$Rail" "target" "I", .methodLink RX4 18 Lib.Math.min.name, .static Lib.Math.min.name, .initialized "java/lang/Math", .code Lib.Math.min.name Lib.Math.min.code 2 (some .int), .methodLink RX4 24 Lib.Math.max.name, .static Lib.Math.max.name, .code Lib.Math.max.name Lib.Math.max.code 2 (some .int)] ++ wsX40)
def wsX5_init : List Cond := .code yX5_init cX5_init 1 none :: ([.methodLink RX5 3 objectInit, .instanceMethod objectInit, .code objectInit ⟨#[0xb1]⟩ 1 none, .fieldLink RX5 9 "Wattgovern$Requests" "made" "I", .fieldLink RX5 15 "Wattgovern$Requests" "greatestNumber" "I", .fieldLink RX5 18 "Wattgovern$Requests" "heldNumber" "I", .fieldLink RX5 21 "Wattgovern$Requests" "heldSpeed" "I", .fieldLink RX5 24 "Wattgovern$Requests" "waitingNumber" "I", .fieldLink RX5 27 "Wattgovern$Requests" "waitingSpeed" "I", .fieldLink RX5 30 "Wattgovern$Requests" "whyRefused" "C"] ++ wsX50)
def wsX5_take : List Cond := .code yX5_take cX5_take 3 none :: ([.fieldLink RX5 9 "Wattgovern$Requests" "made" "I", .fieldLink RX5 15 "Wattgovern$Requests" "greatestNumber" "I", .fieldLink RX5 24 "Wattgovern$Requests" "waitingNumber" "I", .fieldLink RX5 27 "Wattgovern$Requests" "waitingSpeed" "I"] ++ wsX50)
def wsX5_beginToHold : List Cond := .code yX5_beginToHold cX5_beginToHold 1 none :: ([.fieldLink RX5 24 "Wattgovern$Requests" "waitingNumber" "I", .fieldLink RX5 18 "Wattgovern$Requests" "heldNumber" "I", .fieldLink RX5 27 "Wattgovern$Requests" "waitingSpeed" "I", .fieldLink RX5 21 "Wattgovern$Requests" "heldSpeed" "I"] ++ wsX50)
def wsX5_dropBoth : List Cond := .code yX5_dropBoth cX5_dropBoth 2 (some .boolean) :: ([.fieldLink RX5 18 "Wattgovern$Requests" "heldNumber" "I", .fieldLink RX5 24 "Wattgovern$Requests" "waitingNumber" "I"] ++ wsX50)
def wsX6_init : List Cond := .code yX6_init cX6_init 1 none :: ([.methodLink RX6 3 objectInit, .instanceMethod objectInit, .code objectInit ⟨#[0xb1]⟩ 1 none, .fieldLink RX6 9 "Wattgovern$Supply" "wallGives" "I", .fieldLink RX6 15 "Wattgovern$Supply" "battery" "I", .fieldLink RX6 18 "Wattgovern$Supply" "purse" "I", .fieldLink RX6 21 "Wattgovern$Supply" "taken" "J", .fieldLink RX6 25 "Wattgovern$Supply" "owed" "J", .fieldLink RX6 28 "Wattgovern$Supply" "isInDebt" "Z", .fieldLink RX6 32 "Wattgovern$Supply" "sumFromWall" "J", .fieldLink RX6 35 "Wattgovern$Supply" "sumFromBattery" "J", .fieldLink RX6 38 "Wattgovern$Supply" "sumOwed" "J", .fieldLink RX6 41 "Wattgovern$Supply" "sumTaken" "J"] ++ wsX60)
def wsX6_give_r1 : List Cond := [Cond.fieldLink RX6 9 "Wattgovern$Supply" "wallGives" "I", Cond.methodLink RX6 50 Lib.Math.min.name, Cond.static Lib.Math.min.name, Cond.initialized "java/lang/Math", Cond.code Lib.Math.min.name Lib.Math.min.code 2 (some .int), Cond.fieldLink RX6 15 "Wattgovern$Supply" "battery" "I", Cond.fieldLink RX6 21 "Wattgovern$Supply" "taken" "J", Cond.fieldLink RX6 25 "Wattgovern$Supply" "owed" "J", Cond.fieldLink RX6 28 "Wattgovern$Supply" "isInDebt" "Z", Cond.fieldLink RX6 32 "Wattgovern$Supply" "sumFromWall" "J", Cond.fieldLink RX6 35 "Wattgovern$Supply" "sumFromBattery" "J", Cond.fieldLink RX6 38 "Wattgovern$Supply" "sumOwed" "J", Cond.fieldLink RX6 41 "Wattgovern$Supply" "sumTaken" "J", Cond.fieldLink RX6 18 "Wattgovern$Supply" "purse" "I", Cond.methodLink RX6 60 Lib.Math.max.name, Cond.static Lib.Math.max.name, Cond.code Lib.Math.max.name Lib.Math.max.code 2 (some .int), Cond.methodLink RX6 44 yX0_upTo, Cond.instanceMethod yX0_upTo, Cond.selects RX0 yX0_upTo yX0_upTo, Cond.initialized RX0, Cond.code yX0_upTo cX0_upTo 2 (some .int), Cond.fieldLink RX0 15 "Wattgovern$Amount" "used" "I", Cond.fieldLink RX0 9 "Wattgovern$Amount" "parts" "[J"]
def wsX6_give_r2 : List Cond := [Cond.methodLink RX6 56 yX0_lowBits, Cond.instanceMethod yX0_lowBits, Cond.selects RX0 yX0_lowBits yX0_lowBits, Cond.code yX0_lowBits cX0_lowBits 1 (some .long)]
def wsX6_give : List Cond := .code yX6_give cX6_give 7 none :: ((wsX6_give_r1 ++ wsX6_give_r2) ++ wsX60 ++ wsX00)
def wsX7_init : List Cond := .code yX7_init cX7_init 4 none :: ([.methodLink RX7 1 objectInit, .instanceMethod objectInit, .code objectInit ⟨#[0xb1]⟩ 1 none, .fieldLink RX7 7 "Wattgovern$Task" "coldTicks" "I", .fieldLink RX7 13 "Wattgovern$Task" "core" "I", .fieldLink RX7 16 "Wattgovern$Task" "left" "I", .fieldLink RX7 19 "Wattgovern$Task" "memory" "I"] ++ wsX70)
def wsX7_workAt : List Cond := .code yX7_workAt cX7_workAt 3 none :: ([.fieldLink RX7 19 "Wattgovern$Task" "memory" "I", .methodLink RX7 22 Lib.Math.max.name, .static Lib.Math.max.name, .initialized "java/lang/Math", .code Lib.Math.max.name Lib.Math.max.code 2 (some .int), .fieldLink RX7 7 "Wattgovern$Task" "coldTicks" "I", .fieldLink RX7 16 "Wattgovern$Task" "left" "I", .methodLink RX7 28 Lib.Math.min.name, .static Lib.Math.min.name, .code Lib.Math.min.name Lib.Math.min.code 2 (some .int)] ++ wsX70)
def wsX8_init_r1 : List Cond := [Cond.methodLink RX8 1 objectInit, Cond.instanceMethod objectInit, Cond.code objectInit ⟨#[0xb1]⟩ 1 none, Cond.classLink RX8 9 RX4, Cond.fieldLink RX8 11 "Wattgovern" "rails" "[LWattgovern$Rail;", Cond.classLink RX8 15 RX3, Cond.fieldLink RX8 17 "Wattgovern" "cores" "[LWattgovern$Core;", Cond.classLink RX8 21 RX7, Cond.fieldLink RX8 23 "Wattgovern" "tasks" "[LWattgovern$Task;", Cond.classLink RX8 27 RX2, Cond.instantiable RX2 5, Cond.initialized RX2, Cond.fieldLink RX8 30 "Wattgovern" "cooling" "LWattgovern$Cooling;", Cond.classLink RX8 34 RX6, Cond.instantiable RX6 10, Cond.initialized RX6, Cond.fieldLink RX8 37 "Wattgovern" "supply" "LWattgovern$Supply;", Cond.classLink RX8 41 RX5, Cond.instantiable RX5 7, Cond.initialized RX5, Cond.fieldLink RX8 44 "Wattgovern" "requests" "LWattgovern$Requests;", Cond.classLink RX8 48 RX0, Cond.instantiable RX0 2, Cond.initialized RX0]
def wsX8_init_r2 : List Cond := [Cond.fieldLink RX8 51 "Wattgovern" "powerOfAll" "LWattgovern$Amount;", Cond.fieldLink RX8 55 "Wattgovern" "passing" "LWattgovern$Amount;", Cond.fieldLink RX8 58 "Wattgovern" "ticks" "I", Cond.fieldLink RX8 62 "Wattgovern" "heatFromOutside" "J", Cond.instantiable RX4 2, Cond.initialized RX4, Cond.methodLink RX8 29 yX2_init, Cond.instanceMethod yX2_init, Cond.code yX2_init cX2_init 1 none, Cond.methodLink RX2 3 objectInit, Cond.classLink RX2 9 RX1, Cond.instantiable RX1 3, Cond.initialized RX1, Cond.fieldLink RX2 14 "Wattgovern$Cooling" "box" "LWattgovern$Body;", Cond.classLink RX2 20 RX0, Cond.fieldLink RX2 23 "Wattgovern$Cooling" "airDegrees" "LWattgovern$Amount;", Cond.fieldLink RX2 27 "Wattgovern$Cooling" "givenToAir" "J", Cond.fieldLink RX2 31 "Wattgovern$Cooling" "fanLevel" "I", Cond.fieldLink RX2 35 "Wattgovern$Cooling" "fanDead" "Z", Cond.methodLink RX2 11 yX1_init, Cond.instanceMethod yX1_init, Cond.code yX1_init cX1_init 3 none, Cond.methodLink RX1 1 objectInit, Cond.classLink RX1 7 RX0]
def wsX8_init_r3 : List Cond := [Cond.fieldLink RX1 10 "Wattgovern$Body" "heat" "LWattgovern$Amount;", Cond.fieldLink RX1 16 "Wattgovern$Body" "degrees" "LWattgovern$Amount;", Cond.fieldLink RX1 19 "Wattgovern$Body" "heatOfDegree" "I", Cond.instanceMethod yX0_init, Cond.code yX0_init cX0_init 1 none, Cond.methodLink RX0 3 objectInit, Cond.arrayClass .long, Cond.fieldLink RX0 9 "Wattgovern$Amount" "parts" "[J", Cond.fieldLink RX0 15 "Wattgovern$Amount" "used" "I", Cond.methodLink RX1 23 yX0_become, Cond.instanceMethod yX0_become, Cond.selects RX0 yX0_become yX0_become, Cond.code yX0_become cX0_become 4 none, Cond.methodLink RX0 19 yX0_reach, Cond.instanceMethod yX0_reach, Cond.selects RX0 yX0_reach yX0_reach, Cond.code yX0_reach cX0_reach 2 (some .int), Cond.methodLink RX0 38 Lib.Math.max.name, Cond.static Lib.Math.max.name, Cond.initialized "java/lang/Math", Cond.code Lib.Math.max.name Lib.Math.max.code 2 (some .int), Cond.methodLink RX0 44 Lib.Math.min.name, Cond.static Lib.Math.min.name, Cond.code Lib.Math.min.name Lib.Math.min.code 2 (some .int)]
def wsX8_init_r4 : List Cond := [Cond.methodLink RX0 23 yX0_dropZeros, Cond.instanceMethod yX0_dropZeros, Cond.selects RX0 yX0_dropZeros yX0_dropZeros, Cond.code yX0_dropZeros cX0_dropZeros 1 none, Cond.methodLink RX1 27 yX0_becomeQuotient, Cond.instanceMethod yX0_becomeQuotient, Cond.selects RX0 yX0_becomeQuotient yX0_becomeQuotient, Cond.code yX0_becomeQuotient cX0_becomeQuotient 6 none, Cond.methodLink RX2 39 yX0_become, Cond.instanceMethod yX6_init, Cond.code yX6_init cX6_init 1 none, Cond.methodLink RX6 3 objectInit, Cond.fieldLink RX6 9 "Wattgovern$Supply" "wallGives" "I", Cond.fieldLink RX6 15 "Wattgovern$Supply" "battery" "I", Cond.fieldLink RX6 18 "Wattgovern$Supply" "purse" "I", Cond.fieldLink RX6 21 "Wattgovern$Supply" "taken" "J", Cond.fieldLink RX6 25 "Wattgovern$Supply" "owed" "J", Cond.fieldLink RX6 28 "Wattgovern$Supply" "isInDebt" "Z", Cond.fieldLink RX6 32 "Wattgovern$Supply" "sumFromWall" "J", Cond.fieldLink RX6 35 "Wattgovern$Supply" "sumFromBattery" "J", Cond.fieldLink RX6 38 "Wattgovern$Supply" "sumOwed" "J", Cond.fieldLink RX6 41 "Wattgovern$Supply" "sumTaken" "J", Cond.instanceMethod yX5_init, Cond.code yX5_init cX5_init 1 none]
def wsX8_init_r5 : List Cond := [Cond.methodLink RX5 3 objectInit, Cond.fieldLink RX5 9 "Wattgovern$Requests" "made" "I", Cond.fieldLink RX5 15 "Wattgovern$Requests" "greatestNumber" "I", Cond.fieldLink RX5 18 "Wattgovern$Requests" "heldNumber" "I", Cond.fieldLink RX5 21 "Wattgovern$Requests" "heldSpeed" "I", Cond.fieldLink RX5 24 "Wattgovern$Requests" "waitingNumber" "I", Cond.fieldLink RX5 27 "Wattgovern$Requests" "waitingSpeed" "I", Cond.fieldLink RX5 30 "Wattgovern$Requests" "whyRefused" "C", Cond.instanceMethod yX4_init, Cond.code yX4_init cX4_init 1 none, Cond.methodLink RX4 3 objectInit, Cond.fieldLink RX4 9 "Wattgovern$Rail" "millivolts" "I", Cond.fieldLink RX4 15 "Wattgovern$Rail" "target" "I"]
def wsX8_init : List Cond := .code yX8_init cX8_init 2 none :: ((wsX8_init_r1 ++ (wsX8_init_r2 ++ (wsX8_init_r3 ++ (wsX8_init_r4 ++ wsX8_init_r5)))) ++ wsX80 ++ wsX20 ++ wsX60 ++ wsX50 ++ wsX00 ++ wsX40 ++ wsX10)
def wsX8_railAt : List Cond := .code yX8_railAt cX8_railAt 3 (some (.object "Wattgovern$Rail")) :: ([.classLink RX8 305 "java/lang/IndexOutOfBoundsException", .initialized "java/lang/IndexOutOfBoundsException", .fieldLink RX8 11 "Wattgovern" "rails" "[LWattgovern$Rail;"] ++ wsX80 ++ (vx_atS RX8 309 "java/lang/IndexOutOfBoundsException" ["java/lang/RuntimeException", "java/lang/Exception"]).filter goodWord)
def wsX8_core_r1 : List Cond := [Cond.classLink RX8 71 "java/lang/IllegalArgumentException", Cond.initialized "java/lang/IllegalArgumentException", Cond.classLink RX8 81 "java/lang/IllegalStateException", Cond.initialized "java/lang/IllegalStateException", Cond.fieldLink RX8 17 "Wattgovern" "cores" "[LWattgovern$Core;", Cond.classLink RX8 15 RX3, Cond.instantiable RX3 20, Cond.initialized RX3, Cond.methodLink RX8 67 yX8_railAt, Cond.instanceMethod yX8_railAt, Cond.selects RX8 yX8_railAt yX8_railAt, Cond.initialized RX8, Cond.code yX8_railAt cX8_railAt 3 (some (.object "Wattgovern$Rail")), Cond.classLink RX8 305 "java/lang/IndexOutOfBoundsException", Cond.initialized "java/lang/IndexOutOfBoundsException", Cond.fieldLink RX8 11 "Wattgovern" "rails" "[LWattgovern$Rail;", Cond.methodLink RX8 78 yX3_init, Cond.instanceMethod yX3_init, Cond.code yX3_init cX3_init 4 none, Cond.methodLink RX3 3 objectInit, Cond.instanceMethod objectInit, Cond.code objectInit ⟨#[0xb1]⟩ 1 none, Cond.fieldLink RX3 9 "Wattgovern$Core" "governor" "C", Cond.fieldLink RX3 15 "Wattgovern$Core" "fixedSpeed" "I"]
def wsX8_core_r2 : List Cond := [Cond.fieldLink RX3 19 "Wattgovern$Core" "wanted" "I", Cond.fieldLink RX3 22 "Wattgovern$Core" "mayHave" "I", Cond.fieldLink RX3 25 "Wattgovern$Core" "speed" "I", Cond.fieldLink RX3 28 "Wattgovern$Core" "clamp" "C", Cond.fieldLink RX3 31 "Wattgovern$Core" "sleep" "C", Cond.fieldLink RX3 34 "Wattgovern$Core" "idleTicks" "I", Cond.fieldLink RX3 37 "Wattgovern$Core" "ticksToWake" "I", Cond.fieldLink RX3 40 "Wattgovern$Core" "wasDeep" "Z", Cond.fieldLink RX3 44 "Wattgovern$Core" "busy" "Z", Cond.fieldLink RX3 47 "Wattgovern$Core" "wasBusy" "Z", Cond.classLink RX3 50 RX1, Cond.instantiable RX1 3, Cond.initialized RX1, Cond.fieldLink RX3 55 "Wattgovern$Core" "body" "LWattgovern$Body;", Cond.fieldLink RX3 59 "Wattgovern$Core" "sensorTells" "I", Cond.fieldLink RX3 62 "Wattgovern$Core" "sensorLost" "Z", Cond.fieldLink RX3 65 "Wattgovern$Core" "tripped" "Z", Cond.fieldLink RX3 68 "Wattgovern$Core" "worn" "I", Cond.fieldLink RX3 71 "Wattgovern$Core" "number" "I", Cond.fieldLink RX3 74 "Wattgovern$Core" "rail" "LWattgovern$Rail;", Cond.fieldLink RX3 78 "Wattgovern$Core" "big" "Z", Cond.methodLink RX3 52 yX1_init, Cond.instanceMethod yX1_init, Cond.code yX1_init cX1_init 3 none]
def wsX8_core_r3 : List Cond := [Cond.methodLink RX1 1 objectInit, Cond.classLink RX1 7 RX0, Cond.instantiable RX0 2, Cond.initialized RX0, Cond.fieldLink RX1 10 "Wattgovern$Body" "heat" "LWattgovern$Amount;", Cond.fieldLink RX1 16 "Wattgovern$Body" "degrees" "LWattgovern$Amount;", Cond.fieldLink RX1 19 "Wattgovern$Body" "heatOfDegree" "I", Cond.instanceMethod yX0_init, Cond.code yX0_init cX0_init 1 none, Cond.methodLink RX0 3 objectInit, Cond.arrayClass .long, Cond.fieldLink RX0 9 "Wattgovern$Amount" "parts" "[J", Cond.fieldLink RX0 15 "Wattgovern$Amount" "used" "I", Cond.methodLink RX1 23 yX0_become, Cond.instanceMethod yX0_become, Cond.selects RX0 yX0_become yX0_become, Cond.code yX0_become cX0_become 4 none, Cond.methodLink RX0 19 yX0_reach, Cond.instanceMethod yX0_reach, Cond.selects RX0 yX0_reach yX0_reach, Cond.code yX0_reach cX0_reach 2 (some .int), Cond.methodLink RX0 38 Lib.Math.max.name, Cond.static Lib.Math.max.name, Cond.initialized "java/lang/Math"]
def wsX8_core_r4 : List Cond := [Cond.code Lib.Math.max.name Lib.Math.max.code 2 (some .int), Cond.methodLink RX0 44 Lib.Math.min.name, Cond.static Lib.Math.min.name, Cond.code Lib.Math.min.name Lib.Math.min.code 2 (some .int), Cond.methodLink RX0 23 yX0_dropZeros, Cond.instanceMethod yX0_dropZeros, Cond.selects RX0 yX0_dropZeros yX0_dropZeros, Cond.code yX0_dropZeros cX0_dropZeros 1 none, Cond.methodLink RX1 27 yX0_becomeQuotient, Cond.instanceMethod yX0_becomeQuotient, Cond.selects RX0 yX0_becomeQuotient yX0_becomeQuotient, Cond.code yX0_becomeQuotient cX0_becomeQuotient 6 none]
def wsX8_core : List Cond := .code yX8_core cX8_core 5 (some .int) :: ((wsX8_core_r1 ++ (wsX8_core_r2 ++ (wsX8_core_r3 ++ wsX8_core_r4))) ++ wsX80 ++ wsX30 ++ wsX10 ++ wsX00 ++ (vx_atS RX8 75 "java/lang/IllegalArgumentException" ["java/lang/RuntimeException", "java/lang/Exception"]).filter goodWord ++ (vx_atS RX8 85 "java/lang/IllegalStateException" ["java/lang/RuntimeException", "java/lang/Exception"]).filter goodWord ++ (vx_atS RX8 309 "java/lang/IndexOutOfBoundsException" ["java/lang/RuntimeException", "java/lang/Exception"]).filter goodWord)
def wsX8_coreAt : List Cond := .code yX8_coreAt cX8_coreAt 3 (some (.object "Wattgovern$Core")) :: ([.classLink RX8 305 "java/lang/IndexOutOfBoundsException", .initialized "java/lang/IndexOutOfBoundsException", .fieldLink RX8 17 "Wattgovern" "cores" "[LWattgovern$Core;"] ++ wsX80 ++ (vx_atS RX8 309 "java/lang/IndexOutOfBoundsException" ["java/lang/RuntimeException", "java/lang/Exception"]).filter goodWord)
def wsX8_isFrom : List Cond := .code yX8_isFrom cX8_isFrom 3 (some .boolean) :: ([])
def wsX8_thread_r1 : List Cond := [Cond.classLink RX8 71 "java/lang/IllegalArgumentException", Cond.initialized "java/lang/IllegalArgumentException", Cond.classLink RX8 81 "java/lang/IllegalStateException", Cond.initialized "java/lang/IllegalStateException", Cond.constant RX8 90 (99999), Cond.fieldLink RX8 23 "Wattgovern" "tasks" "[LWattgovern$Task;", Cond.classLink RX8 21 RX7, Cond.instantiable RX7 4, Cond.initialized RX7, Cond.methodLink RX8 86 yX8_coreAt, Cond.instanceMethod yX8_coreAt, Cond.selects RX8 yX8_coreAt yX8_coreAt, Cond.initialized RX8, Cond.code yX8_coreAt cX8_coreAt 3 (some (.object "Wattgovern$Core")), Cond.classLink RX8 305 "java/lang/IndexOutOfBoundsException", Cond.initialized "java/lang/IndexOutOfBoundsException", Cond.fieldLink RX8 17 "Wattgovern" "cores" "[LWattgovern$Core;", Cond.methodLink RX8 91 yX8_isFrom, Cond.static yX8_isFrom, Cond.code yX8_isFrom cX8_isFrom 3 (some .boolean), Cond.methodLink RX8 97 yX7_init, Cond.instanceMethod yX7_init, Cond.code yX7_init cX7_init 4 none, Cond.methodLink RX7 1 objectInit]
def wsX8_thread_r2 : List Cond := [Cond.instanceMethod objectInit, Cond.code objectInit ⟨#[0xb1]⟩ 1 none, Cond.fieldLink RX7 7 "Wattgovern$Task" "coldTicks" "I", Cond.fieldLink RX7 13 "Wattgovern$Task" "core" "I", Cond.fieldLink RX7 16 "Wattgovern$Task" "left" "I", Cond.fieldLink RX7 19 "Wattgovern$Task" "memory" "I"]
def wsX8_thread : List Cond := .code yX8_thread cX8_thread 5 (some .int) :: ((wsX8_thread_r1 ++ wsX8_thread_r2) ++ wsX80 ++ wsX70 ++ (vx_atS RX8 75 "java/lang/IllegalArgumentException" ["java/lang/RuntimeException", "java/lang/Exception"]).filter goodWord ++ (vx_atS RX8 85 "java/lang/IllegalStateException" ["java/lang/RuntimeException", "java/lang/Exception"]).filter goodWord ++ (vx_atS RX8 309 "java/lang/IndexOutOfBoundsException" ["java/lang/RuntimeException", "java/lang/Exception"]).filter goodWord)
def wsX8_taskAt : List Cond := .code yX8_taskAt cX8_taskAt 3 (some (.object "Wattgovern$Task")) :: ([.classLink RX8 305 "java/lang/IndexOutOfBoundsException", .initialized "java/lang/IndexOutOfBoundsException", .fieldLink RX8 23 "Wattgovern" "tasks" "[LWattgovern$Task;"] ++ wsX80 ++ (vx_atS RX8 309 "java/lang/IndexOutOfBoundsException" ["java/lang/RuntimeException", "java/lang/Exception"]).filter goodWord)
def wsX8_feed : List Cond := .code yX8_feed cX8_feed 4 (some .int) :: ([.classLink RX8 71 "java/lang/IllegalArgumentException", .initialized "java/lang/IllegalArgumentException", .classLink RX8 81 "java/lang/IllegalStateException", .initialized "java/lang/IllegalStateException", .constant RX8 90 (99999), .fieldLink RX8 106 "Wattgovern$Task" "left" "I", .constant RX8 109 (999999), .methodLink RX8 102 yX8_taskAt, .instanceMethod yX8_taskAt, .selects RX8 yX8_taskAt yX8_taskAt, .initialized RX8, .code yX8_taskAt cX8_taskAt 3 (some (.object "Wattgovern$Task")), .classLink RX8 305 "java/lang/IndexOutOfBoundsException", .initialized "java/lang/IndexOutOfBoundsException", .fieldLink RX8 23 "Wattgovern" "tasks" "[LWattgovern$Task;", .methodLink RX8 91 yX8_isFrom, .static yX8_isFrom, .code yX8_isFrom cX8_isFrom 3 (some .boolean)] ++ wsX70 ++ wsX80 ++ (vx_atS RX8 75 "java/lang/IllegalArgumentException" ["java/lang/RuntimeException", "java/lang/Exception"]).filter goodWord ++ (vx_atS RX8 85 "java/lang/IllegalStateException" ["java/lang/RuntimeException", "java/lang/Exception"]).filter goodWord ++ (vx_atS RX8 309 "java/lang/IndexOutOfBoundsException" ["java/lang/RuntimeException", "java/lang/Exception"]).filter goodWord)
def wsX8_move : List Cond := .code yX8_move cX8_move 5 (some .int) :: ([.classLink RX8 115 "java/lang/UnsupportedOperationException", .initialized "java/lang/UnsupportedOperationException", .fieldLink RX8 112 "Wattgovern$Task" "core" "I", .fieldLink RX8 120 "Wattgovern$Task" "coldTicks" "I", .methodLink RX8 102 yX8_taskAt, .instanceMethod yX8_taskAt, .selects RX8 yX8_taskAt yX8_taskAt, .initialized RX8, .code yX8_taskAt cX8_taskAt 3 (some (.object "Wattgovern$Task")), .classLink RX8 305 "java/lang/IndexOutOfBoundsException", .initialized "java/lang/IndexOutOfBoundsException", .fieldLink RX8 23 "Wattgovern" "tasks" "[LWattgovern$Task;", .methodLink RX8 86 yX8_coreAt, .instanceMethod yX8_coreAt, .selects RX8 yX8_coreAt yX8_coreAt, .code yX8_coreAt cX8_coreAt 3 (some (.object "Wattgovern$Core")), .fieldLink RX8 17 "Wattgovern" "cores" "[LWattgovern$Core;"] ++ wsX70 ++ wsX80 ++ (vx_atS RX8 119 "java/lang/UnsupportedOperationException" ["java/lang/RuntimeException", "java/lang/Exception"]).filter goodWord ++ (vx_atS RX8 309 "java/lang/IndexOutOfBoundsException" ["java/lang/RuntimeException", "java/lang/Exception"]).filter goodWord)
def wsX8_governor : List Cond := .code yX8_governor cX8_governor 6 (some .char) :: ([.classLink RX8 71 "java/lang/IllegalArgumentException", .initialized "java/lang/IllegalArgumentException", .fieldLink RX8 127 "Wattgovern$Core" "governor" "C", .fieldLink RX8 131 "Wattgovern$Core" "fixedSpeed" "I", .methodLink RX8 86 yX8_coreAt, .instanceMethod yX8_coreAt, .selects RX8 yX8_coreAt yX8_coreAt, .initialized RX8, .code yX8_coreAt cX8_coreAt 3 (some (.object "Wattgovern$Core")), .classLink RX8 305 "java/lang/IndexOutOfBoundsException", .initialized "java/lang/IndexOutOfBoundsException", .fieldLink RX8 17 "Wattgovern" "cores" "[LWattgovern$Core;", .methodLink RX8 91 yX8_isFrom, .static yX8_isFrom, .code yX8_isFrom cX8_isFrom 3 (some .boolean)] ++ wsX30 ++ wsX80 ++ (vx_atS RX8 75 "java/lang/IllegalArgumentException" ["java/lang/RuntimeException", "java/lang/Exception"]).filter goodWord ++ (vx_atS RX8 309 "java/lang/IndexOutOfBoundsException" ["java/lang/RuntimeException", "java/lang/Exception"]).filter goodWord)
def wsX8_work : List Cond := .code yX8_work cX8_work 2 (some .int) :: ([.fieldLink RX8 106 "Wattgovern$Task" "left" "I", .methodLink RX8 102 yX8_taskAt, .instanceMethod yX8_taskAt, .selects RX8 yX8_taskAt yX8_taskAt, .initialized RX8, .code yX8_taskAt cX8_taskAt 3 (some (.object "Wattgovern$Task")), .classLink RX8 305 "java/lang/IndexOutOfBoundsException", .initialized "java/lang/IndexOutOfBoundsException", .fieldLink RX8 23 "Wattgovern" "tasks" "[LWattgovern$Task;"] ++ wsX70 ++ wsX80 ++ (vx_atS RX8 309 "java/lang/IndexOutOfBoundsException" ["java/lang/RuntimeException", "java/lang/Exception"]).filter goodWord)
def wsX8_isCold : List Cond := .code yX8_isCold cX8_isCold 2 (some .boolean) :: ([.fieldLink RX8 120 "Wattgovern$Task" "coldTicks" "I", .methodLink RX8 102 yX8_taskAt, .instanceMethod yX8_taskAt, .selects RX8 yX8_taskAt yX8_taskAt, .initialized RX8, .code yX8_taskAt cX8_taskAt 3 (some (.object "Wattgovern$Task")), .classLink RX8 305 "java/lang/IndexOutOfBoundsException", .initialized "java/lang/IndexOutOfBoundsException", .fieldLink RX8 23 "Wattgovern" "tasks" "[LWattgovern$Task;"] ++ wsX70 ++ wsX80 ++ (vx_atS RX8 309 "java/lang/IndexOutOfBoundsException" ["java/lang/RuntimeException", "java/lang/Exception"]).filter goodWord)
def wsX8_runningOn : List Cond := .code yX8_runningOn cX8_runningOn 6 (some (.object "Wattgovern$Task")) :: ([.fieldLink RX8 23 "Wattgovern" "tasks" "[LWattgovern$Task;", .fieldLink RX8 112 "Wattgovern$Task" "core" "I", .fieldLink RX8 106 "Wattgovern$Task" "left" "I"] ++ wsX80 ++ wsX70)
def wsX8_beginCores_r1 : List Cond := [Cond.fieldLink RX8 58 "Wattgovern" "ticks" "I", Cond.fieldLink RX8 17 "Wattgovern" "cores" "[LWattgovern$Core;", Cond.fieldLink RX8 289 "Wattgovern$Core" "number" "I", Cond.methodLink RX8 151 yX8_runningOn, Cond.instanceMethod yX8_runningOn, Cond.selects RX8 yX8_runningOn yX8_runningOn, Cond.initialized RX8, Cond.code yX8_runningOn cX8_runningOn 6 (some (.object "Wattgovern$Task")), Cond.fieldLink RX8 23 "Wattgovern" "tasks" "[LWattgovern$Task;", Cond.fieldLink RX8 112 "Wattgovern$Task" "core" "I", Cond.fieldLink RX8 106 "Wattgovern$Task" "left" "I", Cond.methodLink RX8 350 yX3_noteBusy, Cond.instanceMethod yX3_noteBusy, Cond.selects RX3 yX3_noteBusy yX3_noteBusy, Cond.initialized RX3, Cond.code yX3_noteBusy cX3_noteBusy 2 none, Cond.fieldLink RX3 44 "Wattgovern$Core" "busy" "Z", Cond.fieldLink RX3 47 "Wattgovern$Core" "wasBusy" "Z", Cond.methodLink RX8 354 yX3_readSensor, Cond.instanceMethod yX3_readSensor, Cond.selects RX3 yX3_readSensor yX3_readSensor, Cond.code yX3_readSensor cX3_readSensor 2 none, Cond.fieldLink RX3 55 "Wattgovern$Core" "body" "LWattgovern$Body;", Cond.fieldLink RX3 85 "Wattgovern$Body" "degrees" "LWattgovern$Amount;"]
def wsX8_beginCores_r2 : List Cond := [Cond.fieldLink RX3 59 "Wattgovern$Core" "sensorTells" "I", Cond.methodLink RX3 95 yX0_lowBits, Cond.instanceMethod yX0_lowBits, Cond.selects RX0 yX0_lowBits yX0_lowBits, Cond.initialized RX0, Cond.code yX0_lowBits cX0_lowBits 1 (some .long), Cond.fieldLink RX0 9 "Wattgovern$Amount" "parts" "[J", Cond.methodLink RX8 357 yX3_tripAndWear, Cond.instanceMethod yX3_tripAndWear, Cond.selects RX3 yX3_tripAndWear yX3_tripAndWear, Cond.code yX3_tripAndWear cX3_tripAndWear 2 none, Cond.fieldLink RX3 65 "Wattgovern$Core" "tripped" "Z", Cond.fieldLink RX3 68 "Wattgovern$Core" "worn" "I", Cond.methodLink RX3 89 yX0_upTo, Cond.instanceMethod yX0_upTo, Cond.selects RX0 yX0_upTo yX0_upTo, Cond.code yX0_upTo cX0_upTo 2 (some .int), Cond.fieldLink RX0 15 "Wattgovern$Amount" "used" "I"]
def wsX8_beginCores : List Cond := .code yX8_beginCores cX8_beginCores 6 none :: ((wsX8_beginCores_r1 ++ wsX8_beginCores_r2) ++ wsX80 ++ wsX30 ++ wsX70 ++ wsX10 ++ wsX00)
def wsX8_chillThreadsOn : List Cond := .code yX8_chillThreadsOn cX8_chillThreadsOn 6 none :: ([.fieldLink RX8 23 "Wattgovern" "tasks" "[LWattgovern$Task;", .fieldLink RX8 112 "Wattgovern$Task" "core" "I", .fieldLink RX8 120 "Wattgovern$Task" "coldTicks" "I"] ++ wsX80 ++ wsX70)
def wsX8_goOnWaking : List Cond := .code yX8_goOnWaking cX8_goOnWaking 2 none :: ([.fieldLink RX8 376 "Wattgovern$Core" "ticksToWake" "I", .fieldLink RX8 148 "Wattgovern$Core" "sleep" "C", .fieldLink RX8 379 "Wattgovern$Core" "wasDeep" "Z", .fieldLink RX8 289 "Wattgovern$Core" "number" "I", .methodLink RX8 382 yX8_chillThreadsOn, .instanceMethod yX8_chillThreadsOn, .selects RX8 yX8_chillThreadsOn yX8_chillThreadsOn, .initialized RX8, .code yX8_chillThreadsOn cX8_chillThreadsOn 6 none, .fieldLink RX8 23 "Wattgovern" "tasks" "[LWattgovern$Task;", .fieldLink RX8 112 "Wattgovern$Task" "core" "I", .fieldLink RX8 120 "Wattgovern$Task" "coldTicks" "I"] ++ wsX30 ++ wsX80 ++ wsX70)
def wsX8_sleepAndWake_r1 : List Cond := [Cond.fieldLink RX8 17 "Wattgovern" "cores" "[LWattgovern$Core;", Cond.fieldLink RX8 148 "Wattgovern$Core" "sleep" "C", Cond.fieldLink RX8 364 "Wattgovern$Core" "busy" "Z", Cond.fieldLink RX8 370 "Wattgovern$Core" "idleTicks" "I", Cond.methodLink RX8 360 yX8_goOnWaking, Cond.instanceMethod yX8_goOnWaking, Cond.selects RX8 yX8_goOnWaking yX8_goOnWaking, Cond.initialized RX8, Cond.code yX8_goOnWaking cX8_goOnWaking 2 none, Cond.fieldLink RX8 376 "Wattgovern$Core" "ticksToWake" "I", Cond.fieldLink RX8 379 "Wattgovern$Core" "wasDeep" "Z", Cond.fieldLink RX8 289 "Wattgovern$Core" "number" "I", Cond.methodLink RX8 382 yX8_chillThreadsOn, Cond.instanceMethod yX8_chillThreadsOn, Cond.selects RX8 yX8_chillThreadsOn yX8_chillThreadsOn, Cond.code yX8_chillThreadsOn cX8_chillThreadsOn 6 none, Cond.fieldLink RX8 23 "Wattgovern" "tasks" "[LWattgovern$Task;", Cond.fieldLink RX8 112 "Wattgovern$Task" "core" "I", Cond.fieldLink RX8 120 "Wattgovern$Task" "coldTicks" "I", Cond.methodLink RX8 367 yX3_countIdle, Cond.instanceMethod yX3_countIdle, Cond.selects RX3 yX3_countIdle yX3_countIdle, Cond.initialized RX3, Cond.code yX3_countIdle cX3_countIdle 1 none]
def wsX8_sleepAndWake_r2 : List Cond := [Cond.fieldLink RX3 34 "Wattgovern$Core" "idleTicks" "I", Cond.fieldLink RX3 31 "Wattgovern$Core" "sleep" "C", Cond.methodLink RX8 373 yX3_beginToWake, Cond.instanceMethod yX3_beginToWake, Cond.selects RX3 yX3_beginToWake yX3_beginToWake, Cond.code yX3_beginToWake cX3_beginToWake 1 none, Cond.fieldLink RX3 40 "Wattgovern$Core" "wasDeep" "Z", Cond.fieldLink RX3 37 "Wattgovern$Core" "ticksToWake" "I"]
def wsX8_sleepAndWake : List Cond := .code yX8_sleepAndWake cX8_sleepAndWake 6 none :: ((wsX8_sleepAndWake_r1 ++ wsX8_sleepAndWake_r2) ++ wsX80 ++ wsX30 ++ wsX70)
def wsX8_threadsWithWorkOn : List Cond := .code yX8_threadsWithWorkOn cX8_threadsWithWorkOn 7 (some .int) :: ([.fieldLink RX8 23 "Wattgovern" "tasks" "[LWattgovern$Task;", .fieldLink RX8 112 "Wattgovern$Task" "core" "I", .fieldLink RX8 106 "Wattgovern$Task" "left" "I"] ++ wsX80 ++ wsX70)
def wsX8_clampOne_r1 : List Cond := [Cond.fieldLink RX8 142 "Wattgovern$Core" "wanted" "I", Cond.fieldLink RX8 394 "Wattgovern$Core" "mayHave" "I", Cond.fieldLink RX8 145 "Wattgovern$Core" "clamp" "C", Cond.fieldLink RX8 198 "Wattgovern$Core" "tripped" "Z", Cond.fieldLink RX8 37 "Wattgovern" "supply" "LWattgovern$Supply;", Cond.fieldLink RX8 401 "Wattgovern$Supply" "isInDebt" "Z", Cond.fieldLink RX8 186 "Wattgovern$Core" "sensorLost" "Z", Cond.fieldLink RX8 226 "Wattgovern$Supply" "purse" "I", Cond.fieldLink RX8 44 "Wattgovern" "requests" "LWattgovern$Requests;", Cond.fieldLink RX8 250 "Wattgovern$Requests" "heldNumber" "I", Cond.fieldLink RX8 404 "Wattgovern$Requests" "heldSpeed" "I", Cond.fieldLink RX8 148 "Wattgovern$Core" "sleep" "C", Cond.methodLink RX8 260 yX3_isTooOld, Cond.instanceMethod yX3_isTooOld, Cond.selects RX3 yX3_isTooOld yX3_isTooOld, Cond.initialized RX3, Cond.code yX3_isTooOld cX3_isTooOld 1 (some .boolean), Cond.methodLink RX3 81 yX3_inAge, Cond.instanceMethod yX3_inAge, Cond.selects RX3 yX3_inAge yX3_inAge, Cond.code yX3_inAge cX3_inAge 1 (some .int), Cond.fieldLink RX3 68 "Wattgovern$Core" "worn" "I", Cond.methodLink RX8 397 yX3_limit, Cond.instanceMethod yX3_limit]
def wsX8_clampOne_r2 : List Cond := [Cond.selects RX3 yX3_limit yX3_limit, Cond.code yX3_limit cX3_limit 3 none, Cond.fieldLink RX3 22 "Wattgovern$Core" "mayHave" "I", Cond.fieldLink RX3 28 "Wattgovern$Core" "clamp" "C"]
def wsX8_clampOne : List Cond := .code yX8_clampOne cX8_clampOne 2 none :: ((wsX8_clampOne_r1 ++ wsX8_clampOne_r2) ++ wsX30 ++ wsX80 ++ wsX60 ++ wsX50)
def wsX8_wishAndClamp_r1 : List Cond := [Cond.fieldLink RX8 17 "Wattgovern" "cores" "[LWattgovern$Core;", Cond.fieldLink RX8 289 "Wattgovern$Core" "number" "I", Cond.methodLink RX8 385 yX8_threadsWithWorkOn, Cond.instanceMethod yX8_threadsWithWorkOn, Cond.selects RX8 yX8_threadsWithWorkOn yX8_threadsWithWorkOn, Cond.initialized RX8, Cond.code yX8_threadsWithWorkOn cX8_threadsWithWorkOn 7 (some .int), Cond.fieldLink RX8 23 "Wattgovern" "tasks" "[LWattgovern$Task;", Cond.fieldLink RX8 112 "Wattgovern$Task" "core" "I", Cond.fieldLink RX8 106 "Wattgovern$Task" "left" "I", Cond.methodLink RX8 388 yX3_wish, Cond.instanceMethod yX3_wish, Cond.selects RX3 yX3_wish yX3_wish, Cond.initialized RX3, Cond.code yX3_wish cX3_wish 3 none, Cond.fieldLink RX3 15 "Wattgovern$Core" "fixedSpeed" "I", Cond.fieldLink RX3 9 "Wattgovern$Core" "governor" "C", Cond.fieldLink RX3 47 "Wattgovern$Core" "wasBusy" "Z", Cond.fieldLink RX3 25 "Wattgovern$Core" "speed" "I", Cond.methodLink RX3 102 Lib.Math.min.name, Cond.static Lib.Math.min.name, Cond.initialized "java/lang/Math", Cond.code Lib.Math.min.name Lib.Math.min.code 2 (some .int), Cond.methodLink RX3 108 Lib.Math.max.name]
def wsX8_wishAndClamp_r2 : List Cond := [Cond.static Lib.Math.max.name, Cond.code Lib.Math.max.name Lib.Math.max.code 2 (some .int), Cond.fieldLink RX3 19 "Wattgovern$Core" "wanted" "I", Cond.methodLink RX3 99 yX3_greatestSpeed, Cond.instanceMethod yX3_greatestSpeed, Cond.selects RX3 yX3_greatestSpeed yX3_greatestSpeed, Cond.code yX3_greatestSpeed cX3_greatestSpeed 1 (some .int), Cond.fieldLink RX3 78 "Wattgovern$Core" "big" "Z", Cond.methodLink RX8 391 yX8_clampOne, Cond.instanceMethod yX8_clampOne, Cond.selects RX8 yX8_clampOne yX8_clampOne, Cond.code yX8_clampOne cX8_clampOne 2 none, Cond.fieldLink RX8 142 "Wattgovern$Core" "wanted" "I", Cond.fieldLink RX8 394 "Wattgovern$Core" "mayHave" "I", Cond.fieldLink RX8 145 "Wattgovern$Core" "clamp" "C", Cond.fieldLink RX8 198 "Wattgovern$Core" "tripped" "Z", Cond.fieldLink RX8 37 "Wattgovern" "supply" "LWattgovern$Supply;", Cond.fieldLink RX8 401 "Wattgovern$Supply" "isInDebt" "Z", Cond.fieldLink RX8 186 "Wattgovern$Core" "sensorLost" "Z", Cond.fieldLink RX8 226 "Wattgovern$Supply" "purse" "I", Cond.fieldLink RX8 44 "Wattgovern" "requests" "LWattgovern$Requests;", Cond.fieldLink RX8 250 "Wattgovern$Requests" "heldNumber" "I", Cond.fieldLink RX8 404 "Wattgovern$Requests" "heldSpeed" "I", Cond.fieldLink RX8 148 "Wattgovern$Core" "sleep" "C"]
def wsX8_wishAndClamp_r3 : List Cond := [Cond.methodLink RX8 260 yX3_isTooOld, Cond.instanceMethod yX3_isTooOld, Cond.selects RX3 yX3_isTooOld yX3_isTooOld, Cond.code yX3_isTooOld cX3_isTooOld 1 (some .boolean), Cond.methodLink RX3 81 yX3_inAge, Cond.instanceMethod yX3_inAge, Cond.selects RX3 yX3_inAge yX3_inAge, Cond.code yX3_inAge cX3_inAge 1 (some .int), Cond.fieldLink RX3 68 "Wattgovern$Core" "worn" "I", Cond.methodLink RX8 397 yX3_limit, Cond.instanceMethod yX3_limit, Cond.selects RX3 yX3_limit yX3_limit, Cond.code yX3_limit cX3_limit 3 none, Cond.fieldLink RX3 22 "Wattgovern$Core" "mayHave" "I", Cond.fieldLink RX3 28 "Wattgovern$Core" "clamp" "C"]
def wsX8_wishAndClamp : List Cond := .code yX8_wishAndClamp cX8_wishAndClamp 5 none :: ((wsX8_wishAndClamp_r1 ++ (wsX8_wishAndClamp_r2 ++ wsX8_wishAndClamp_r3)) ++ wsX80 ++ wsX30 ++ wsX70 ++ wsX60 ++ wsX50)
def wsX8_driveRails_r1 : List Cond := [Cond.fieldLink RX8 11 "Wattgovern" "rails" "[LWattgovern$Rail;", Cond.fieldLink RX8 407 "Wattgovern$Rail" "target" "I", Cond.fieldLink RX8 17 "Wattgovern" "cores" "[LWattgovern$Core;", Cond.fieldLink RX8 410 "Wattgovern$Core" "rail" "LWattgovern$Rail;", Cond.fieldLink RX8 394 "Wattgovern$Core" "mayHave" "I", Cond.methodLink RX8 414 Lib.Math.max.name, Cond.static Lib.Math.max.name, Cond.initialized "java/lang/Math", Cond.code Lib.Math.max.name Lib.Math.max.code 2 (some .int), Cond.methodLink RX8 160 yX3_voltsFor, Cond.instanceMethod yX3_voltsFor, Cond.selects RX3 yX3_voltsFor yX3_voltsFor, Cond.initialized RX3, Cond.code yX3_voltsFor cX3_voltsFor 3 (some .int), Cond.fieldLink RX3 55 "Wattgovern$Core" "body" "LWattgovern$Body;", Cond.fieldLink RX3 85 "Wattgovern$Body" "degrees" "LWattgovern$Amount;", Cond.methodLink RX3 89 yX0_upTo, Cond.instanceMethod yX0_upTo, Cond.selects RX0 yX0_upTo yX0_upTo, Cond.initialized RX0, Cond.code yX0_upTo cX0_upTo 2 (some .int), Cond.fieldLink RX0 15 "Wattgovern$Amount" "used" "I", Cond.fieldLink RX0 9 "Wattgovern$Amount" "parts" "[J", Cond.methodLink RX3 81 yX3_inAge]
def wsX8_driveRails_r2 : List Cond := [Cond.instanceMethod yX3_inAge, Cond.selects RX3 yX3_inAge yX3_inAge, Cond.code yX3_inAge cX3_inAge 1 (some .int), Cond.fieldLink RX3 68 "Wattgovern$Core" "worn" "I", Cond.methodLink RX8 420 yX4_goTowardsTarget, Cond.instanceMethod yX4_goTowardsTarget, Cond.selects RX4 yX4_goTowardsTarget yX4_goTowardsTarget, Cond.initialized RX4, Cond.code yX4_goTowardsTarget cX4_goTowardsTarget 3 none, Cond.fieldLink RX4 9 "Wattgovern$Rail" "millivolts" "I", Cond.fieldLink RX4 15 "Wattgovern$Rail" "target" "I", Cond.methodLink RX4 18 Lib.Math.min.name, Cond.static Lib.Math.min.name, Cond.code Lib.Math.min.name Lib.Math.min.code 2 (some .int), Cond.methodLink RX4 24 Lib.Math.max.name]
def wsX8_driveRails : List Cond := .code yX8_driveRails cX8_driveRails 5 none :: ((wsX8_driveRails_r1 ++ wsX8_driveRails_r2) ++ wsX80 ++ wsX40 ++ wsX30 ++ wsX10 ++ wsX00)
def wsX8_letCoresRun_r1 : List Cond := [Cond.fieldLink RX8 17 "Wattgovern" "cores" "[LWattgovern$Core;", Cond.fieldLink RX8 289 "Wattgovern$Core" "number" "I", Cond.fieldLink RX8 139 "Wattgovern$Core" "speed" "I", Cond.methodLink RX8 423 yX3_setSpeed, Cond.instanceMethod yX3_setSpeed, Cond.selects RX3 yX3_setSpeed yX3_setSpeed, Cond.initialized RX3, Cond.code yX3_setSpeed cX3_setSpeed 1 none, Cond.fieldLink RX3 22 "Wattgovern$Core" "mayHave" "I", Cond.fieldLink RX3 25 "Wattgovern$Core" "speed" "I", Cond.fieldLink RX3 74 "Wattgovern$Core" "rail" "LWattgovern$Rail;", Cond.fieldLink RX3 114 "Wattgovern$Rail" "millivolts" "I", Cond.methodLink RX3 111 yX3_voltsFor, Cond.instanceMethod yX3_voltsFor, Cond.selects RX3 yX3_voltsFor yX3_voltsFor, Cond.code yX3_voltsFor cX3_voltsFor 3 (some .int), Cond.fieldLink RX3 55 "Wattgovern$Core" "body" "LWattgovern$Body;", Cond.fieldLink RX3 85 "Wattgovern$Body" "degrees" "LWattgovern$Amount;", Cond.methodLink RX3 89 yX0_upTo, Cond.instanceMethod yX0_upTo, Cond.selects RX0 yX0_upTo yX0_upTo, Cond.initialized RX0, Cond.code yX0_upTo cX0_upTo 2 (some .int), Cond.fieldLink RX0 15 "Wattgovern$Amount" "used" "I"]
def wsX8_letCoresRun_r2 : List Cond := [Cond.fieldLink RX0 9 "Wattgovern$Amount" "parts" "[J", Cond.methodLink RX3 81 yX3_inAge, Cond.instanceMethod yX3_inAge, Cond.selects RX3 yX3_inAge yX3_inAge, Cond.code yX3_inAge cX3_inAge 1 (some .int), Cond.fieldLink RX3 68 "Wattgovern$Core" "worn" "I", Cond.methodLink RX8 151 yX8_runningOn, Cond.instanceMethod yX8_runningOn, Cond.selects RX8 yX8_runningOn yX8_runningOn, Cond.initialized RX8, Cond.code yX8_runningOn cX8_runningOn 6 (some (.object "Wattgovern$Task")), Cond.fieldLink RX8 23 "Wattgovern" "tasks" "[LWattgovern$Task;", Cond.fieldLink RX8 112 "Wattgovern$Task" "core" "I", Cond.fieldLink RX8 106 "Wattgovern$Task" "left" "I", Cond.methodLink RX8 426 yX3_workOfOneSpeed, Cond.instanceMethod yX3_workOfOneSpeed, Cond.selects RX3 yX3_workOfOneSpeed yX3_workOfOneSpeed, Cond.code yX3_workOfOneSpeed cX3_workOfOneSpeed 1 (some .int), Cond.fieldLink RX3 78 "Wattgovern$Core" "big" "Z", Cond.methodLink RX8 429 yX7_workAt, Cond.instanceMethod yX7_workAt, Cond.selects RX7 yX7_workAt yX7_workAt, Cond.initialized RX7, Cond.code yX7_workAt cX7_workAt 3 none]
def wsX8_letCoresRun_r3 : List Cond := [Cond.fieldLink RX7 19 "Wattgovern$Task" "memory" "I", Cond.methodLink RX7 22 Lib.Math.max.name, Cond.static Lib.Math.max.name, Cond.initialized "java/lang/Math", Cond.code Lib.Math.max.name Lib.Math.max.code 2 (some .int), Cond.fieldLink RX7 7 "Wattgovern$Task" "coldTicks" "I", Cond.fieldLink RX7 16 "Wattgovern$Task" "left" "I", Cond.methodLink RX7 28 Lib.Math.min.name, Cond.static Lib.Math.min.name, Cond.code Lib.Math.min.name Lib.Math.min.code 2 (some .int)]
def wsX8_letCoresRun : List Cond := .code yX8_letCoresRun cX8_letCoresRun 6 none :: ((wsX8_letCoresRun_r1 ++ (wsX8_letCoresRun_r2 ++ wsX8_letCoresRun_r3)) ++ wsX80 ++ wsX30 ++ wsX40 ++ wsX10 ++ wsX00 ++ wsX70)
def wsX8_heatCores_r1 : List Cond := [Cond.fieldLink RX8 51 "Wattgovern" "powerOfAll" "LWattgovern$Amount;", Cond.fieldLink RX8 17 "Wattgovern" "cores" "[LWattgovern$Core;", Cond.fieldLink RX8 55 "Wattgovern" "passing" "LWattgovern$Amount;", Cond.fieldLink RX8 167 "Wattgovern$Core" "body" "LWattgovern$Body;", Cond.methodLink RX8 212 yX0_become, Cond.instanceMethod yX0_become, Cond.selects RX0 yX0_become yX0_become, Cond.initialized RX0, Cond.code yX0_become cX0_become 4 none, Cond.fieldLink RX0 9 "Wattgovern$Amount" "parts" "[J", Cond.fieldLink RX0 15 "Wattgovern$Amount" "used" "I", Cond.methodLink RX0 19 yX0_reach, Cond.instanceMethod yX0_reach, Cond.selects RX0 yX0_reach yX0_reach, Cond.code yX0_reach cX0_reach 2 (some .int), Cond.methodLink RX0 38 Lib.Math.max.name, Cond.static Lib.Math.max.name, Cond.initialized "java/lang/Math", Cond.code Lib.Math.max.name Lib.Math.max.code 2 (some .int), Cond.methodLink RX0 44 Lib.Math.min.name, Cond.static Lib.Math.min.name, Cond.code Lib.Math.min.name Lib.Math.min.code 2 (some .int), Cond.methodLink RX0 23 yX0_dropZeros, Cond.instanceMethod yX0_dropZeros]
def wsX8_heatCores_r2 : List Cond := [Cond.selects RX0 yX0_dropZeros yX0_dropZeros, Cond.code yX0_dropZeros cX0_dropZeros 1 none, Cond.methodLink RX8 432 yX3_powerOfSpeed, Cond.instanceMethod yX3_powerOfSpeed, Cond.selects RX3 yX3_powerOfSpeed yX3_powerOfSpeed, Cond.initialized RX3, Cond.code yX3_powerOfSpeed cX3_powerOfSpeed 1 (some .int), Cond.fieldLink RX3 25 "Wattgovern$Core" "speed" "I", Cond.fieldLink RX3 74 "Wattgovern$Core" "rail" "LWattgovern$Rail;", Cond.fieldLink RX3 114 "Wattgovern$Rail" "millivolts" "I", Cond.fieldLink RX3 44 "Wattgovern$Core" "busy" "Z", Cond.methodLink RX8 435 yX3_tellLeak, Cond.instanceMethod yX3_tellLeak, Cond.selects RX3 yX3_tellLeak yX3_tellLeak, Cond.code yX3_tellLeak cX3_tellLeak 2 none, Cond.fieldLink RX3 31 "Wattgovern$Core" "sleep" "C", Cond.fieldLink RX3 55 "Wattgovern$Core" "body" "LWattgovern$Body;", Cond.fieldLink RX3 85 "Wattgovern$Body" "degrees" "LWattgovern$Amount;", Cond.methodLink RX3 119 yX0_become, Cond.methodLink RX3 123 yX0_becomeProduct, Cond.instanceMethod yX0_becomeProduct, Cond.selects RX0 yX0_becomeProduct yX0_becomeProduct, Cond.code yX0_becomeProduct cX0_becomeProduct 7 none, Cond.constantLong RX0 26 (4294967295)]
def wsX8_heatCores_r3 : List Cond := [Cond.methodLink RX0 28 yX0_putOnTop, Cond.instanceMethod yX0_putOnTop, Cond.selects RX0 yX0_putOnTop yX0_putOnTop, Cond.code yX0_putOnTop cX0_putOnTop 3 none, Cond.methodLink RX3 127 yX0_becomeQuotient, Cond.instanceMethod yX0_becomeQuotient, Cond.selects RX0 yX0_becomeQuotient yX0_becomeQuotient, Cond.code yX0_becomeQuotient cX0_becomeQuotient 6 none, Cond.methodLink RX8 216 yX1_gain, Cond.instanceMethod yX1_gain, Cond.selects RX1 yX1_gain yX1_gain, Cond.initialized RX1, Cond.code yX1_gain cX1_gain 2 none, Cond.fieldLink RX1 10 "Wattgovern$Body" "heat" "LWattgovern$Amount;", Cond.fieldLink RX1 16 "Wattgovern$Body" "degrees" "LWattgovern$Amount;", Cond.fieldLink RX1 19 "Wattgovern$Body" "heatOfDegree" "I", Cond.methodLink RX1 31 yX0_add, Cond.instanceMethod yX0_add, Cond.selects RX0 yX0_add yX0_add, Cond.code yX0_add cX0_add 6 none, Cond.methodLink RX1 27 yX0_becomeQuotient, Cond.methodLink RX8 294 yX0_add]
def wsX8_heatCores : List Cond := .code yX8_heatCores cX8_heatCores 6 none :: ((wsX8_heatCores_r1 ++ (wsX8_heatCores_r2 ++ wsX8_heatCores_r3)) ++ wsX80 ++ wsX30 ++ wsX00 ++ wsX40 ++ wsX10)
def wsX8_flowToCase_r1 : List Cond := [Cond.fieldLink RX8 17 "Wattgovern" "cores" "[LWattgovern$Core;", Cond.fieldLink RX8 167 "Wattgovern$Core" "body" "LWattgovern$Body;", Cond.fieldLink RX8 180 "Wattgovern$Body" "degrees" "LWattgovern$Amount;", Cond.fieldLink RX8 30 "Wattgovern" "cooling" "LWattgovern$Cooling;", Cond.fieldLink RX8 183 "Wattgovern$Cooling" "box" "LWattgovern$Body;", Cond.fieldLink RX8 55 "Wattgovern" "passing" "LWattgovern$Amount;", Cond.methodLink RX8 438 yX0_isLess, Cond.instanceMethod yX0_isLess, Cond.selects RX0 yX0_isLess yX0_isLess, Cond.initialized RX0, Cond.code yX0_isLess cX0_isLess 3 (some .boolean), Cond.fieldLink RX0 9 "Wattgovern$Amount" "parts" "[J", Cond.methodLink RX0 19 yX0_reach, Cond.instanceMethod yX0_reach, Cond.selects RX0 yX0_reach yX0_reach, Cond.code yX0_reach cX0_reach 2 (some .int), Cond.fieldLink RX0 15 "Wattgovern$Amount" "used" "I", Cond.methodLink RX0 38 Lib.Math.max.name, Cond.static Lib.Math.max.name, Cond.initialized "java/lang/Math", Cond.code Lib.Math.max.name Lib.Math.max.code 2 (some .int), Cond.methodLink RX0 44 Lib.Math.min.name, Cond.static Lib.Math.min.name, Cond.code Lib.Math.min.name Lib.Math.min.code 2 (some .int)]
def wsX8_flowToCase_r2 : List Cond := [Cond.methodLink RX8 442 yX0_becomeSame, Cond.instanceMethod yX0_becomeSame, Cond.selects RX0 yX0_becomeSame yX0_becomeSame, Cond.code yX0_becomeSame cX0_becomeSame 4 none, Cond.methodLink RX0 23 yX0_dropZeros, Cond.instanceMethod yX0_dropZeros, Cond.selects RX0 yX0_dropZeros yX0_dropZeros, Cond.code yX0_dropZeros cX0_dropZeros 1 none, Cond.methodLink RX8 445 yX0_takeAway, Cond.instanceMethod yX0_takeAway, Cond.selects RX0 yX0_takeAway yX0_takeAway, Cond.code yX0_takeAway cX0_takeAway 6 none, Cond.constantLong RX0 26 (4294967295), Cond.methodLink RX8 448 yX1_giveAway, Cond.instanceMethod yX1_giveAway, Cond.selects RX1 yX1_giveAway yX1_giveAway, Cond.initialized RX1, Cond.code yX1_giveAway cX1_giveAway 2 none, Cond.fieldLink RX1 10 "Wattgovern$Body" "heat" "LWattgovern$Amount;", Cond.fieldLink RX1 16 "Wattgovern$Body" "degrees" "LWattgovern$Amount;", Cond.fieldLink RX1 19 "Wattgovern$Body" "heatOfDegree" "I", Cond.methodLink RX1 35 yX0_takeAway, Cond.methodLink RX1 27 yX0_becomeQuotient, Cond.instanceMethod yX0_becomeQuotient]
def wsX8_flowToCase_r3 : List Cond := [Cond.selects RX0 yX0_becomeQuotient yX0_becomeQuotient, Cond.code yX0_becomeQuotient cX0_becomeQuotient 6 none, Cond.methodLink RX8 216 yX1_gain, Cond.instanceMethod yX1_gain, Cond.selects RX1 yX1_gain yX1_gain, Cond.code yX1_gain cX1_gain 2 none, Cond.methodLink RX1 31 yX0_add, Cond.instanceMethod yX0_add, Cond.selects RX0 yX0_add yX0_add, Cond.code yX0_add cX0_add 6 none, Cond.methodLink RX0 28 yX0_putOnTop, Cond.instanceMethod yX0_putOnTop, Cond.selects RX0 yX0_putOnTop yX0_putOnTop, Cond.code yX0_putOnTop cX0_putOnTop 3 none]
def wsX8_flowToCase : List Cond := .code yX8_flowToCase cX8_flowToCase 8 none :: ((wsX8_flowToCase_r1 ++ (wsX8_flowToCase_r2 ++ wsX8_flowToCase_r3)) ++ wsX80 ++ wsX30 ++ wsX10 ++ wsX20 ++ wsX00)
def wsX8_oneTick_r1 : List Cond := [Cond.fieldLink RX8 58 "Wattgovern" "ticks" "I", Cond.fieldLink RX8 44 "Wattgovern" "requests" "LWattgovern$Requests;", Cond.fieldLink RX8 30 "Wattgovern" "cooling" "LWattgovern$Cooling;", Cond.fieldLink RX8 55 "Wattgovern" "passing" "LWattgovern$Amount;", Cond.fieldLink RX8 51 "Wattgovern" "powerOfAll" "LWattgovern$Amount;", Cond.fieldLink RX8 37 "Wattgovern" "supply" "LWattgovern$Supply;", Cond.methodLink RX8 314 yX5_beginToHold, Cond.instanceMethod yX5_beginToHold, Cond.selects RX5 yX5_beginToHold yX5_beginToHold, Cond.initialized RX5, Cond.code yX5_beginToHold cX5_beginToHold 1 none, Cond.fieldLink RX5 24 "Wattgovern$Requests" "waitingNumber" "I", Cond.fieldLink RX5 18 "Wattgovern$Requests" "heldNumber" "I", Cond.fieldLink RX5 27 "Wattgovern$Requests" "waitingSpeed" "I", Cond.fieldLink RX5 21 "Wattgovern$Requests" "heldSpeed" "I", Cond.methodLink RX8 317 yX8_beginCores, Cond.instanceMethod yX8_beginCores, Cond.selects RX8 yX8_beginCores yX8_beginCores, Cond.initialized RX8, Cond.code yX8_beginCores cX8_beginCores 6 none, Cond.fieldLink RX8 17 "Wattgovern" "cores" "[LWattgovern$Core;", Cond.fieldLink RX8 289 "Wattgovern$Core" "number" "I", Cond.methodLink RX8 151 yX8_runningOn, Cond.instanceMethod yX8_runningOn]
def wsX8_oneTick_r2 : List Cond := [Cond.selects RX8 yX8_runningOn yX8_runningOn, Cond.code yX8_runningOn cX8_runningOn 6 (some (.object "Wattgovern$Task")), Cond.fieldLink RX8 23 "Wattgovern" "tasks" "[LWattgovern$Task;", Cond.fieldLink RX8 112 "Wattgovern$Task" "core" "I", Cond.fieldLink RX8 106 "Wattgovern$Task" "left" "I", Cond.methodLink RX8 350 yX3_noteBusy, Cond.instanceMethod yX3_noteBusy, Cond.selects RX3 yX3_noteBusy yX3_noteBusy, Cond.initialized RX3, Cond.code yX3_noteBusy cX3_noteBusy 2 none, Cond.fieldLink RX3 44 "Wattgovern$Core" "busy" "Z", Cond.fieldLink RX3 47 "Wattgovern$Core" "wasBusy" "Z", Cond.methodLink RX8 354 yX3_readSensor, Cond.instanceMethod yX3_readSensor, Cond.selects RX3 yX3_readSensor yX3_readSensor, Cond.code yX3_readSensor cX3_readSensor 2 none, Cond.fieldLink RX3 55 "Wattgovern$Core" "body" "LWattgovern$Body;", Cond.fieldLink RX3 85 "Wattgovern$Body" "degrees" "LWattgovern$Amount;", Cond.fieldLink RX3 59 "Wattgovern$Core" "sensorTells" "I", Cond.methodLink RX3 95 yX0_lowBits, Cond.instanceMethod yX0_lowBits, Cond.selects RX0 yX0_lowBits yX0_lowBits, Cond.initialized RX0, Cond.code yX0_lowBits cX0_lowBits 1 (some .long)]
def wsX8_oneTick_r3 : List Cond := [Cond.fieldLink RX0 9 "Wattgovern$Amount" "parts" "[J", Cond.methodLink RX8 357 yX3_tripAndWear, Cond.instanceMethod yX3_tripAndWear, Cond.selects RX3 yX3_tripAndWear yX3_tripAndWear, Cond.code yX3_tripAndWear cX3_tripAndWear 2 none, Cond.fieldLink RX3 65 "Wattgovern$Core" "tripped" "Z", Cond.fieldLink RX3 68 "Wattgovern$Core" "worn" "I", Cond.methodLink RX3 89 yX0_upTo, Cond.instanceMethod yX0_upTo, Cond.selects RX0 yX0_upTo yX0_upTo, Cond.code yX0_upTo cX0_upTo 2 (some .int), Cond.fieldLink RX0 15 "Wattgovern$Amount" "used" "I", Cond.methodLink RX8 320 yX8_sleepAndWake, Cond.instanceMethod yX8_sleepAndWake, Cond.selects RX8 yX8_sleepAndWake yX8_sleepAndWake, Cond.code yX8_sleepAndWake cX8_sleepAndWake 6 none, Cond.fieldLink RX8 148 "Wattgovern$Core" "sleep" "C", Cond.fieldLink RX8 364 "Wattgovern$Core" "busy" "Z", Cond.fieldLink RX8 370 "Wattgovern$Core" "idleTicks" "I", Cond.methodLink RX8 360 yX8_goOnWaking, Cond.instanceMethod yX8_goOnWaking, Cond.selects RX8 yX8_goOnWaking yX8_goOnWaking, Cond.code yX8_goOnWaking cX8_goOnWaking 2 none, Cond.fieldLink RX8 376 "Wattgovern$Core" "ticksToWake" "I"]
def wsX8_oneTick_r4 : List Cond := [Cond.fieldLink RX8 379 "Wattgovern$Core" "wasDeep" "Z", Cond.methodLink RX8 382 yX8_chillThreadsOn, Cond.instanceMethod yX8_chillThreadsOn, Cond.selects RX8 yX8_chillThreadsOn yX8_chillThreadsOn, Cond.code yX8_chillThreadsOn cX8_chillThreadsOn 6 none, Cond.fieldLink RX8 120 "Wattgovern$Task" "coldTicks" "I", Cond.methodLink RX8 367 yX3_countIdle, Cond.instanceMethod yX3_countIdle, Cond.selects RX3 yX3_countIdle yX3_countIdle, Cond.code yX3_countIdle cX3_countIdle 1 none, Cond.fieldLink RX3 34 "Wattgovern$Core" "idleTicks" "I", Cond.fieldLink RX3 31 "Wattgovern$Core" "sleep" "C", Cond.methodLink RX8 373 yX3_beginToWake, Cond.instanceMethod yX3_beginToWake, Cond.selects RX3 yX3_beginToWake yX3_beginToWake, Cond.code yX3_beginToWake cX3_beginToWake 1 none, Cond.fieldLink RX3 40 "Wattgovern$Core" "wasDeep" "Z", Cond.fieldLink RX3 37 "Wattgovern$Core" "ticksToWake" "I", Cond.methodLink RX8 323 yX8_wishAndClamp, Cond.instanceMethod yX8_wishAndClamp, Cond.selects RX8 yX8_wishAndClamp yX8_wishAndClamp, Cond.code yX8_wishAndClamp cX8_wishAndClamp 5 none, Cond.methodLink RX8 385 yX8_threadsWithWorkOn, Cond.instanceMethod yX8_threadsWithWorkOn]
def wsX8_oneTick_r5 : List Cond := [Cond.selects RX8 yX8_threadsWithWorkOn yX8_threadsWithWorkOn, Cond.code yX8_threadsWithWorkOn cX8_threadsWithWorkOn 7 (some .int), Cond.methodLink RX8 388 yX3_wish, Cond.instanceMethod yX3_wish, Cond.selects RX3 yX3_wish yX3_wish, Cond.code yX3_wish cX3_wish 3 none, Cond.fieldLink RX3 15 "Wattgovern$Core" "fixedSpeed" "I", Cond.fieldLink RX3 9 "Wattgovern$Core" "governor" "C", Cond.fieldLink RX3 25 "Wattgovern$Core" "speed" "I", Cond.methodLink RX3 102 Lib.Math.min.name, Cond.static Lib.Math.min.name, Cond.initialized "java/lang/Math", Cond.code Lib.Math.min.name Lib.Math.min.code 2 (some .int), Cond.methodLink RX3 108 Lib.Math.max.name, Cond.static Lib.Math.max.name, Cond.code Lib.Math.max.name Lib.Math.max.code 2 (some .int), Cond.fieldLink RX3 19 "Wattgovern$Core" "wanted" "I", Cond.methodLink RX3 99 yX3_greatestSpeed, Cond.instanceMethod yX3_greatestSpeed, Cond.selects RX3 yX3_greatestSpeed yX3_greatestSpeed, Cond.code yX3_greatestSpeed cX3_greatestSpeed 1 (some .int), Cond.fieldLink RX3 78 "Wattgovern$Core" "big" "Z", Cond.methodLink RX8 391 yX8_clampOne, Cond.instanceMethod yX8_clampOne]
def wsX8_oneTick_r6 : List Cond := [Cond.selects RX8 yX8_clampOne yX8_clampOne, Cond.code yX8_clampOne cX8_clampOne 2 none, Cond.fieldLink RX8 142 "Wattgovern$Core" "wanted" "I", Cond.fieldLink RX8 394 "Wattgovern$Core" "mayHave" "I", Cond.fieldLink RX8 145 "Wattgovern$Core" "clamp" "C", Cond.fieldLink RX8 198 "Wattgovern$Core" "tripped" "Z", Cond.fieldLink RX8 401 "Wattgovern$Supply" "isInDebt" "Z", Cond.fieldLink RX8 186 "Wattgovern$Core" "sensorLost" "Z", Cond.fieldLink RX8 226 "Wattgovern$Supply" "purse" "I", Cond.fieldLink RX8 250 "Wattgovern$Requests" "heldNumber" "I", Cond.fieldLink RX8 404 "Wattgovern$Requests" "heldSpeed" "I", Cond.methodLink RX8 260 yX3_isTooOld, Cond.instanceMethod yX3_isTooOld, Cond.selects RX3 yX3_isTooOld yX3_isTooOld, Cond.code yX3_isTooOld cX3_isTooOld 1 (some .boolean), Cond.methodLink RX3 81 yX3_inAge, Cond.instanceMethod yX3_inAge, Cond.selects RX3 yX3_inAge yX3_inAge, Cond.code yX3_inAge cX3_inAge 1 (some .int), Cond.methodLink RX8 397 yX3_limit, Cond.instanceMethod yX3_limit, Cond.selects RX3 yX3_limit yX3_limit, Cond.code yX3_limit cX3_limit 3 none, Cond.fieldLink RX3 22 "Wattgovern$Core" "mayHave" "I"]
def wsX8_oneTick_r7 : List Cond := [Cond.fieldLink RX3 28 "Wattgovern$Core" "clamp" "C", Cond.methodLink RX8 326 yX8_driveRails, Cond.instanceMethod yX8_driveRails, Cond.selects RX8 yX8_driveRails yX8_driveRails, Cond.code yX8_driveRails cX8_driveRails 5 none, Cond.fieldLink RX8 11 "Wattgovern" "rails" "[LWattgovern$Rail;", Cond.fieldLink RX8 407 "Wattgovern$Rail" "target" "I", Cond.fieldLink RX8 410 "Wattgovern$Core" "rail" "LWattgovern$Rail;", Cond.methodLink RX8 414 Lib.Math.max.name, Cond.methodLink RX8 160 yX3_voltsFor, Cond.instanceMethod yX3_voltsFor, Cond.selects RX3 yX3_voltsFor yX3_voltsFor, Cond.code yX3_voltsFor cX3_voltsFor 3 (some .int), Cond.methodLink RX8 420 yX4_goTowardsTarget, Cond.instanceMethod yX4_goTowardsTarget, Cond.selects RX4 yX4_goTowardsTarget yX4_goTowardsTarget, Cond.initialized RX4, Cond.code yX4_goTowardsTarget cX4_goTowardsTarget 3 none, Cond.fieldLink RX4 9 "Wattgovern$Rail" "millivolts" "I", Cond.fieldLink RX4 15 "Wattgovern$Rail" "target" "I", Cond.methodLink RX4 18 Lib.Math.min.name, Cond.methodLink RX4 24 Lib.Math.max.name, Cond.methodLink RX8 329 yX8_letCoresRun, Cond.instanceMethod yX8_letCoresRun]
def wsX8_oneTick_r8 : List Cond := [Cond.selects RX8 yX8_letCoresRun yX8_letCoresRun, Cond.code yX8_letCoresRun cX8_letCoresRun 6 none, Cond.fieldLink RX8 139 "Wattgovern$Core" "speed" "I", Cond.methodLink RX8 423 yX3_setSpeed, Cond.instanceMethod yX3_setSpeed, Cond.selects RX3 yX3_setSpeed yX3_setSpeed, Cond.code yX3_setSpeed cX3_setSpeed 1 none, Cond.fieldLink RX3 74 "Wattgovern$Core" "rail" "LWattgovern$Rail;", Cond.fieldLink RX3 114 "Wattgovern$Rail" "millivolts" "I", Cond.methodLink RX3 111 yX3_voltsFor, Cond.methodLink RX8 426 yX3_workOfOneSpeed, Cond.instanceMethod yX3_workOfOneSpeed, Cond.selects RX3 yX3_workOfOneSpeed yX3_workOfOneSpeed, Cond.code yX3_workOfOneSpeed cX3_workOfOneSpeed 1 (some .int), Cond.methodLink RX8 429 yX7_workAt, Cond.instanceMethod yX7_workAt, Cond.selects RX7 yX7_workAt yX7_workAt, Cond.initialized RX7, Cond.code yX7_workAt cX7_workAt 3 none, Cond.fieldLink RX7 19 "Wattgovern$Task" "memory" "I", Cond.methodLink RX7 22 Lib.Math.max.name, Cond.fieldLink RX7 7 "Wattgovern$Task" "coldTicks" "I", Cond.fieldLink RX7 16 "Wattgovern$Task" "left" "I", Cond.methodLink RX7 28 Lib.Math.min.name]
def wsX8_oneTick_r9 : List Cond := [Cond.methodLink RX8 332 yX8_heatCores, Cond.instanceMethod yX8_heatCores, Cond.selects RX8 yX8_heatCores yX8_heatCores, Cond.code yX8_heatCores cX8_heatCores 6 none, Cond.fieldLink RX8 167 "Wattgovern$Core" "body" "LWattgovern$Body;", Cond.methodLink RX8 212 yX0_become, Cond.instanceMethod yX0_become, Cond.selects RX0 yX0_become yX0_become, Cond.code yX0_become cX0_become 4 none, Cond.methodLink RX0 19 yX0_reach, Cond.instanceMethod yX0_reach, Cond.selects RX0 yX0_reach yX0_reach, Cond.code yX0_reach cX0_reach 2 (some .int), Cond.methodLink RX0 38 Lib.Math.max.name, Cond.methodLink RX0 44 Lib.Math.min.name, Cond.methodLink RX0 23 yX0_dropZeros, Cond.instanceMethod yX0_dropZeros, Cond.selects RX0 yX0_dropZeros yX0_dropZeros, Cond.code yX0_dropZeros cX0_dropZeros 1 none, Cond.methodLink RX8 432 yX3_powerOfSpeed, Cond.instanceMethod yX3_powerOfSpeed, Cond.selects RX3 yX3_powerOfSpeed yX3_powerOfSpeed, Cond.code yX3_powerOfSpeed cX3_powerOfSpeed 1 (some .int), Cond.methodLink RX8 435 yX3_tellLeak]
def wsX8_oneTick_r10 : List Cond := [Cond.instanceMethod yX3_tellLeak, Cond.selects RX3 yX3_tellLeak yX3_tellLeak, Cond.code yX3_tellLeak cX3_tellLeak 2 none, Cond.methodLink RX3 119 yX0_become, Cond.methodLink RX3 123 yX0_becomeProduct, Cond.instanceMethod yX0_becomeProduct, Cond.selects RX0 yX0_becomeProduct yX0_becomeProduct, Cond.code yX0_becomeProduct cX0_becomeProduct 7 none, Cond.constantLong RX0 26 (4294967295), Cond.methodLink RX0 28 yX0_putOnTop, Cond.instanceMethod yX0_putOnTop, Cond.selects RX0 yX0_putOnTop yX0_putOnTop, Cond.code yX0_putOnTop cX0_putOnTop 3 none, Cond.methodLink RX3 127 yX0_becomeQuotient, Cond.instanceMethod yX0_becomeQuotient, Cond.selects RX0 yX0_becomeQuotient yX0_becomeQuotient, Cond.code yX0_becomeQuotient cX0_becomeQuotient 6 none, Cond.methodLink RX8 216 yX1_gain, Cond.instanceMethod yX1_gain, Cond.selects RX1 yX1_gain yX1_gain, Cond.initialized RX1, Cond.code yX1_gain cX1_gain 2 none, Cond.fieldLink RX1 10 "Wattgovern$Body" "heat" "LWattgovern$Amount;", Cond.fieldLink RX1 16 "Wattgovern$Body" "degrees" "LWattgovern$Amount;"]
def wsX8_oneTick_r11 : List Cond := [Cond.fieldLink RX1 19 "Wattgovern$Body" "heatOfDegree" "I", Cond.methodLink RX1 31 yX0_add, Cond.instanceMethod yX0_add, Cond.selects RX0 yX0_add yX0_add, Cond.code yX0_add cX0_add 6 none, Cond.methodLink RX1 27 yX0_becomeQuotient, Cond.methodLink RX8 294 yX0_add, Cond.methodLink RX8 335 yX8_flowToCase, Cond.instanceMethod yX8_flowToCase, Cond.selects RX8 yX8_flowToCase yX8_flowToCase, Cond.code yX8_flowToCase cX8_flowToCase 8 none, Cond.fieldLink RX8 180 "Wattgovern$Body" "degrees" "LWattgovern$Amount;", Cond.fieldLink RX8 183 "Wattgovern$Cooling" "box" "LWattgovern$Body;", Cond.methodLink RX8 438 yX0_isLess, Cond.instanceMethod yX0_isLess, Cond.selects RX0 yX0_isLess yX0_isLess, Cond.code yX0_isLess cX0_isLess 3 (some .boolean), Cond.methodLink RX8 442 yX0_becomeSame, Cond.instanceMethod yX0_becomeSame, Cond.selects RX0 yX0_becomeSame yX0_becomeSame, Cond.code yX0_becomeSame cX0_becomeSame 4 none, Cond.methodLink RX8 445 yX0_takeAway, Cond.instanceMethod yX0_takeAway, Cond.selects RX0 yX0_takeAway yX0_takeAway]
def wsX8_oneTick_r12 : List Cond := [Cond.code yX0_takeAway cX0_takeAway 6 none, Cond.methodLink RX8 448 yX1_giveAway, Cond.instanceMethod yX1_giveAway, Cond.selects RX1 yX1_giveAway yX1_giveAway, Cond.code yX1_giveAway cX1_giveAway 2 none, Cond.methodLink RX1 35 yX0_takeAway, Cond.methodLink RX8 338 yX2_giveToAir, Cond.instanceMethod yX2_giveToAir, Cond.selects RX2 yX2_giveToAir yX2_giveToAir, Cond.initialized RX2, Cond.code yX2_giveToAir cX2_giveToAir 2 none, Cond.fieldLink RX2 14 "Wattgovern$Cooling" "box" "LWattgovern$Body;", Cond.fieldLink RX2 43 "Wattgovern$Body" "degrees" "LWattgovern$Amount;", Cond.fieldLink RX2 23 "Wattgovern$Cooling" "airDegrees" "LWattgovern$Amount;", Cond.fieldLink RX2 31 "Wattgovern$Cooling" "fanLevel" "I", Cond.fieldLink RX2 27 "Wattgovern$Cooling" "givenToAir" "J", Cond.methodLink RX2 46 yX0_becomeSame, Cond.methodLink RX2 50 yX0_takeAway, Cond.methodLink RX2 53 yX0_becomeProduct, Cond.methodLink RX2 57 yX0_becomeQuotient, Cond.methodLink RX2 60 yX1_giveAway, Cond.methodLink RX2 63 yX0_lowBits, Cond.methodLink RX8 341 yX2_stepFan, Cond.instanceMethod yX2_stepFan]
def wsX8_oneTick_r13 : List Cond := [Cond.selects RX2 yX2_stepFan yX2_stepFan, Cond.code yX2_stepFan cX2_stepFan 2 none, Cond.fieldLink RX2 35 "Wattgovern$Cooling" "fanDead" "Z", Cond.methodLink RX2 67 yX0_upTo, Cond.methodLink RX8 344 yX2_runFan, Cond.instanceMethod yX2_runFan, Cond.selects RX2 yX2_runFan yX2_runFan, Cond.code yX2_runFan cX2_runFan 2 (some .int), Cond.methodLink RX8 347 yX6_give, Cond.instanceMethod yX6_give, Cond.selects RX6 yX6_give yX6_give, Cond.initialized RX6, Cond.code yX6_give cX6_give 7 none, Cond.fieldLink RX6 9 "Wattgovern$Supply" "wallGives" "I", Cond.methodLink RX6 50 Lib.Math.min.name, Cond.fieldLink RX6 15 "Wattgovern$Supply" "battery" "I", Cond.fieldLink RX6 21 "Wattgovern$Supply" "taken" "J", Cond.fieldLink RX6 25 "Wattgovern$Supply" "owed" "J", Cond.fieldLink RX6 28 "Wattgovern$Supply" "isInDebt" "Z", Cond.fieldLink RX6 32 "Wattgovern$Supply" "sumFromWall" "J", Cond.fieldLink RX6 35 "Wattgovern$Supply" "sumFromBattery" "J", Cond.fieldLink RX6 38 "Wattgovern$Supply" "sumOwed" "J", Cond.fieldLink RX6 41 "Wattgovern$Supply" "sumTaken" "J", Cond.fieldLink RX6 18 "Wattgovern$Supply" "purse" "I"]
def wsX8_oneTick_r14 : List Cond := [Cond.methodLink RX6 60 Lib.Math.max.name, Cond.methodLink RX6 44 yX0_upTo, Cond.methodLink RX6 56 yX0_lowBits]
def wsX8_oneTick : List Cond := .code yX8_oneTick cX8_oneTick 1 none :: ((wsX8_oneTick_r1 ++ (wsX8_oneTick_r2 ++ (wsX8_oneTick_r3 ++ (wsX8_oneTick_r4 ++ (wsX8_oneTick_r5 ++ (wsX8_oneTick_r6 ++ (wsX8_oneTick_r7 ++ (wsX8_oneTick_r8 ++ (wsX8_oneTick_r9 ++ (wsX8_oneTick_r10 ++ (wsX8_oneTick_r11 ++ (wsX8_oneTick_r12 ++ (wsX8_oneTick_r13 ++ wsX8_oneTick_r14))))))))))))) ++ wsX80 ++ wsX50 ++ wsX30 ++ wsX70 ++ wsX10 ++ wsX00 ++ wsX60 ++ wsX40 ++ wsX20)
def wsX8_pass_r1 : List Cond := [Cond.classLink RX8 71 "java/lang/IllegalArgumentException", Cond.initialized "java/lang/IllegalArgumentException", Cond.classLink RX8 81 "java/lang/IllegalStateException", Cond.initialized "java/lang/IllegalStateException", Cond.fieldLink RX8 58 "Wattgovern" "ticks" "I", Cond.methodLink RX8 91 yX8_isFrom, Cond.static yX8_isFrom, Cond.initialized RX8, Cond.code yX8_isFrom cX8_isFrom 3 (some .boolean), Cond.methodLink RX8 136 yX8_oneTick, Cond.instanceMethod yX8_oneTick, Cond.selects RX8 yX8_oneTick yX8_oneTick, Cond.code yX8_oneTick cX8_oneTick 1 none, Cond.fieldLink RX8 44 "Wattgovern" "requests" "LWattgovern$Requests;", Cond.fieldLink RX8 30 "Wattgovern" "cooling" "LWattgovern$Cooling;", Cond.fieldLink RX8 55 "Wattgovern" "passing" "LWattgovern$Amount;", Cond.fieldLink RX8 51 "Wattgovern" "powerOfAll" "LWattgovern$Amount;", Cond.fieldLink RX8 37 "Wattgovern" "supply" "LWattgovern$Supply;", Cond.methodLink RX8 314 yX5_beginToHold, Cond.instanceMethod yX5_beginToHold, Cond.selects RX5 yX5_beginToHold yX5_beginToHold, Cond.initialized RX5, Cond.code yX5_beginToHold cX5_beginToHold 1 none, Cond.fieldLink RX5 24 "Wattgovern$Requests" "waitingNumber" "I"]
def wsX8_pass_r2 : List Cond := [Cond.fieldLink RX5 18 "Wattgovern$Requests" "heldNumber" "I", Cond.fieldLink RX5 27 "Wattgovern$Requests" "waitingSpeed" "I", Cond.fieldLink RX5 21 "Wattgovern$Requests" "heldSpeed" "I", Cond.methodLink RX8 317 yX8_beginCores, Cond.instanceMethod yX8_beginCores, Cond.selects RX8 yX8_beginCores yX8_beginCores, Cond.code yX8_beginCores cX8_beginCores 6 none, Cond.fieldLink RX8 17 "Wattgovern" "cores" "[LWattgovern$Core;", Cond.fieldLink RX8 289 "Wattgovern$Core" "number" "I", Cond.methodLink RX8 151 yX8_runningOn, Cond.instanceMethod yX8_runningOn, Cond.selects RX8 yX8_runningOn yX8_runningOn, Cond.code yX8_runningOn cX8_runningOn 6 (some (.object "Wattgovern$Task")), Cond.fieldLink RX8 23 "Wattgovern" "tasks" "[LWattgovern$Task;", Cond.fieldLink RX8 112 "Wattgovern$Task" "core" "I", Cond.fieldLink RX8 106 "Wattgovern$Task" "left" "I", Cond.methodLink RX8 350 yX3_noteBusy, Cond.instanceMethod yX3_noteBusy, Cond.selects RX3 yX3_noteBusy yX3_noteBusy, Cond.initialized RX3, Cond.code yX3_noteBusy cX3_noteBusy 2 none, Cond.fieldLink RX3 44 "Wattgovern$Core" "busy" "Z", Cond.fieldLink RX3 47 "Wattgovern$Core" "wasBusy" "Z", Cond.methodLink RX8 354 yX3_readSensor]
def wsX8_pass_r3 : List Cond := [Cond.instanceMethod yX3_readSensor, Cond.selects RX3 yX3_readSensor yX3_readSensor, Cond.code yX3_readSensor cX3_readSensor 2 none, Cond.fieldLink RX3 55 "Wattgovern$Core" "body" "LWattgovern$Body;", Cond.fieldLink RX3 85 "Wattgovern$Body" "degrees" "LWattgovern$Amount;", Cond.fieldLink RX3 59 "Wattgovern$Core" "sensorTells" "I", Cond.methodLink RX3 95 yX0_lowBits, Cond.instanceMethod yX0_lowBits, Cond.selects RX0 yX0_lowBits yX0_lowBits, Cond.initialized RX0, Cond.code yX0_lowBits cX0_lowBits 1 (some .long), Cond.fieldLink RX0 9 "Wattgovern$Amount" "parts" "[J", Cond.methodLink RX8 357 yX3_tripAndWear, Cond.instanceMethod yX3_tripAndWear, Cond.selects RX3 yX3_tripAndWear yX3_tripAndWear, Cond.code yX3_tripAndWear cX3_tripAndWear 2 none, Cond.fieldLink RX3 65 "Wattgovern$Core" "tripped" "Z", Cond.fieldLink RX3 68 "Wattgovern$Core" "worn" "I", Cond.methodLink RX3 89 yX0_upTo, Cond.instanceMethod yX0_upTo, Cond.selects RX0 yX0_upTo yX0_upTo, Cond.code yX0_upTo cX0_upTo 2 (some .int), Cond.fieldLink RX0 15 "Wattgovern$Amount" "used" "I", Cond.methodLink RX8 320 yX8_sleepAndWake]
def wsX8_pass_r4 : List Cond := [Cond.instanceMethod yX8_sleepAndWake, Cond.selects RX8 yX8_sleepAndWake yX8_sleepAndWake, Cond.code yX8_sleepAndWake cX8_sleepAndWake 6 none, Cond.fieldLink RX8 148 "Wattgovern$Core" "sleep" "C", Cond.fieldLink RX8 364 "Wattgovern$Core" "busy" "Z", Cond.fieldLink RX8 370 "Wattgovern$Core" "idleTicks" "I", Cond.methodLink RX8 360 yX8_goOnWaking, Cond.instanceMethod yX8_goOnWaking, Cond.selects RX8 yX8_goOnWaking yX8_goOnWaking, Cond.code yX8_goOnWaking cX8_goOnWaking 2 none, Cond.fieldLink RX8 376 "Wattgovern$Core" "ticksToWake" "I", Cond.fieldLink RX8 379 "Wattgovern$Core" "wasDeep" "Z", Cond.methodLink RX8 382 yX8_chillThreadsOn, Cond.instanceMethod yX8_chillThreadsOn, Cond.selects RX8 yX8_chillThreadsOn yX8_chillThreadsOn, Cond.code yX8_chillThreadsOn cX8_chillThreadsOn 6 none, Cond.fieldLink RX8 120 "Wattgovern$Task" "coldTicks" "I", Cond.methodLink RX8 367 yX3_countIdle, Cond.instanceMethod yX3_countIdle, Cond.selects RX3 yX3_countIdle yX3_countIdle, Cond.code yX3_countIdle cX3_countIdle 1 none, Cond.fieldLink RX3 34 "Wattgovern$Core" "idleTicks" "I", Cond.fieldLink RX3 31 "Wattgovern$Core" "sleep" "C", Cond.methodLink RX8 373 yX3_beginToWake]
def wsX8_pass_r5 : List Cond := [Cond.instanceMethod yX3_beginToWake, Cond.selects RX3 yX3_beginToWake yX3_beginToWake, Cond.code yX3_beginToWake cX3_beginToWake 1 none, Cond.fieldLink RX3 40 "Wattgovern$Core" "wasDeep" "Z", Cond.fieldLink RX3 37 "Wattgovern$Core" "ticksToWake" "I", Cond.methodLink RX8 323 yX8_wishAndClamp, Cond.instanceMethod yX8_wishAndClamp, Cond.selects RX8 yX8_wishAndClamp yX8_wishAndClamp, Cond.code yX8_wishAndClamp cX8_wishAndClamp 5 none, Cond.methodLink RX8 385 yX8_threadsWithWorkOn, Cond.instanceMethod yX8_threadsWithWorkOn, Cond.selects RX8 yX8_threadsWithWorkOn yX8_threadsWithWorkOn, Cond.code yX8_threadsWithWorkOn cX8_threadsWithWorkOn 7 (some .int), Cond.methodLink RX8 388 yX3_wish, Cond.instanceMethod yX3_wish, Cond.selects RX3 yX3_wish yX3_wish, Cond.code yX3_wish cX3_wish 3 none, Cond.fieldLink RX3 15 "Wattgovern$Core" "fixedSpeed" "I", Cond.fieldLink RX3 9 "Wattgovern$Core" "governor" "C", Cond.fieldLink RX3 25 "Wattgovern$Core" "speed" "I", Cond.methodLink RX3 102 Lib.Math.min.name, Cond.static Lib.Math.min.name, Cond.initialized "java/lang/Math", Cond.code Lib.Math.min.name Lib.Math.min.code 2 (some .int)]
def wsX8_pass_r6 : List Cond := [Cond.methodLink RX3 108 Lib.Math.max.name, Cond.static Lib.Math.max.name, Cond.code Lib.Math.max.name Lib.Math.max.code 2 (some .int), Cond.fieldLink RX3 19 "Wattgovern$Core" "wanted" "I", Cond.methodLink RX3 99 yX3_greatestSpeed, Cond.instanceMethod yX3_greatestSpeed, Cond.selects RX3 yX3_greatestSpeed yX3_greatestSpeed, Cond.code yX3_greatestSpeed cX3_greatestSpeed 1 (some .int), Cond.fieldLink RX3 78 "Wattgovern$Core" "big" "Z", Cond.methodLink RX8 391 yX8_clampOne, Cond.instanceMethod yX8_clampOne, Cond.selects RX8 yX8_clampOne yX8_clampOne, Cond.code yX8_clampOne cX8_clampOne 2 none, Cond.fieldLink RX8 142 "Wattgovern$Core" "wanted" "I", Cond.fieldLink RX8 394 "Wattgovern$Core" "mayHave" "I", Cond.fieldLink RX8 145 "Wattgovern$Core" "clamp" "C", Cond.fieldLink RX8 198 "Wattgovern$Core" "tripped" "Z", Cond.fieldLink RX8 401 "Wattgovern$Supply" "isInDebt" "Z", Cond.fieldLink RX8 186 "Wattgovern$Core" "sensorLost" "Z", Cond.fieldLink RX8 226 "Wattgovern$Supply" "purse" "I", Cond.fieldLink RX8 250 "Wattgovern$Requests" "heldNumber" "I", Cond.fieldLink RX8 404 "Wattgovern$Requests" "heldSpeed" "I", Cond.methodLink RX8 260 yX3_isTooOld, Cond.instanceMethod yX3_isTooOld]
def wsX8_pass_r7 : List Cond := [Cond.selects RX3 yX3_isTooOld yX3_isTooOld, Cond.code yX3_isTooOld cX3_isTooOld 1 (some .boolean), Cond.methodLink RX3 81 yX3_inAge, Cond.instanceMethod yX3_inAge, Cond.selects RX3 yX3_inAge yX3_inAge, Cond.code yX3_inAge cX3_inAge 1 (some .int), Cond.methodLink RX8 397 yX3_limit, Cond.instanceMethod yX3_limit, Cond.selects RX3 yX3_limit yX3_limit, Cond.code yX3_limit cX3_limit 3 none, Cond.fieldLink RX3 22 "Wattgovern$Core" "mayHave" "I", Cond.fieldLink RX3 28 "Wattgovern$Core" "clamp" "C", Cond.methodLink RX8 326 yX8_driveRails, Cond.instanceMethod yX8_driveRails, Cond.selects RX8 yX8_driveRails yX8_driveRails, Cond.code yX8_driveRails cX8_driveRails 5 none, Cond.fieldLink RX8 11 "Wattgovern" "rails" "[LWattgovern$Rail;", Cond.fieldLink RX8 407 "Wattgovern$Rail" "target" "I", Cond.fieldLink RX8 410 "Wattgovern$Core" "rail" "LWattgovern$Rail;", Cond.methodLink RX8 414 Lib.Math.max.name, Cond.methodLink RX8 160 yX3_voltsFor, Cond.instanceMethod yX3_voltsFor, Cond.selects RX3 yX3_voltsFor yX3_voltsFor, Cond.code yX3_voltsFor cX3_voltsFor 3 (some .int)]
def wsX8_pass_r8 : List Cond := [Cond.methodLink RX8 420 yX4_goTowardsTarget, Cond.instanceMethod yX4_goTowardsTarget, Cond.selects RX4 yX4_goTowardsTarget yX4_goTowardsTarget, Cond.initialized RX4, Cond.code yX4_goTowardsTarget cX4_goTowardsTarget 3 none, Cond.fieldLink RX4 9 "Wattgovern$Rail" "millivolts" "I", Cond.fieldLink RX4 15 "Wattgovern$Rail" "target" "I", Cond.methodLink RX4 18 Lib.Math.min.name, Cond.methodLink RX4 24 Lib.Math.max.name, Cond.methodLink RX8 329 yX8_letCoresRun, Cond.instanceMethod yX8_letCoresRun, Cond.selects RX8 yX8_letCoresRun yX8_letCoresRun, Cond.code yX8_letCoresRun cX8_letCoresRun 6 none, Cond.fieldLink RX8 139 "Wattgovern$Core" "speed" "I", Cond.methodLink RX8 423 yX3_setSpeed, Cond.instanceMethod yX3_setSpeed, Cond.selects RX3 yX3_setSpeed yX3_setSpeed, Cond.code yX3_setSpeed cX3_setSpeed 1 none, Cond.fieldLink RX3 74 "Wattgovern$Core" "rail" "LWattgovern$Rail;", Cond.fieldLink RX3 114 "Wattgovern$Rail" "millivolts" "I", Cond.methodLink RX3 111 yX3_voltsFor, Cond.methodLink RX8 426 yX3_workOfOneSpeed, Cond.instanceMethod yX3_workOfOneSpeed, Cond.selects RX3 yX3_workOfOneSpeed yX3_workOfOneSpeed]
def wsX8_pass_r9 : List Cond := [Cond.code yX3_workOfOneSpeed cX3_workOfOneSpeed 1 (some .int), Cond.methodLink RX8 429 yX7_workAt, Cond.instanceMethod yX7_workAt, Cond.selects RX7 yX7_workAt yX7_workAt, Cond.initialized RX7, Cond.code yX7_workAt cX7_workAt 3 none, Cond.fieldLink RX7 19 "Wattgovern$Task" "memory" "I", Cond.methodLink RX7 22 Lib.Math.max.name, Cond.fieldLink RX7 7 "Wattgovern$Task" "coldTicks" "I", Cond.fieldLink RX7 16 "Wattgovern$Task" "left" "I", Cond.methodLink RX7 28 Lib.Math.min.name, Cond.methodLink RX8 332 yX8_heatCores, Cond.instanceMethod yX8_heatCores, Cond.selects RX8 yX8_heatCores yX8_heatCores, Cond.code yX8_heatCores cX8_heatCores 6 none, Cond.fieldLink RX8 167 "Wattgovern$Core" "body" "LWattgovern$Body;", Cond.methodLink RX8 212 yX0_become, Cond.instanceMethod yX0_become, Cond.selects RX0 yX0_become yX0_become, Cond.code yX0_become cX0_become 4 none, Cond.methodLink RX0 19 yX0_reach, Cond.instanceMethod yX0_reach, Cond.selects RX0 yX0_reach yX0_reach, Cond.code yX0_reach cX0_reach 2 (some .int)]
def wsX8_pass_r10 : List Cond := [Cond.methodLink RX0 38 Lib.Math.max.name, Cond.methodLink RX0 44 Lib.Math.min.name, Cond.methodLink RX0 23 yX0_dropZeros, Cond.instanceMethod yX0_dropZeros, Cond.selects RX0 yX0_dropZeros yX0_dropZeros, Cond.code yX0_dropZeros cX0_dropZeros 1 none, Cond.methodLink RX8 432 yX3_powerOfSpeed, Cond.instanceMethod yX3_powerOfSpeed, Cond.selects RX3 yX3_powerOfSpeed yX3_powerOfSpeed, Cond.code yX3_powerOfSpeed cX3_powerOfSpeed 1 (some .int), Cond.methodLink RX8 435 yX3_tellLeak, Cond.instanceMethod yX3_tellLeak, Cond.selects RX3 yX3_tellLeak yX3_tellLeak, Cond.code yX3_tellLeak cX3_tellLeak 2 none, Cond.methodLink RX3 119 yX0_become, Cond.methodLink RX3 123 yX0_becomeProduct, Cond.instanceMethod yX0_becomeProduct, Cond.selects RX0 yX0_becomeProduct yX0_becomeProduct, Cond.code yX0_becomeProduct cX0_becomeProduct 7 none, Cond.constantLong RX0 26 (4294967295), Cond.methodLink RX0 28 yX0_putOnTop, Cond.instanceMethod yX0_putOnTop, Cond.selects RX0 yX0_putOnTop yX0_putOnTop, Cond.code yX0_putOnTop cX0_putOnTop 3 none]
def wsX8_pass_r11 : List Cond := [Cond.methodLink RX3 127 yX0_becomeQuotient, Cond.instanceMethod yX0_becomeQuotient, Cond.selects RX0 yX0_becomeQuotient yX0_becomeQuotient, Cond.code yX0_becomeQuotient cX0_becomeQuotient 6 none, Cond.methodLink RX8 216 yX1_gain, Cond.instanceMethod yX1_gain, Cond.selects RX1 yX1_gain yX1_gain, Cond.initialized RX1, Cond.code yX1_gain cX1_gain 2 none, Cond.fieldLink RX1 10 "Wattgovern$Body" "heat" "LWattgovern$Amount;", Cond.fieldLink RX1 16 "Wattgovern$Body" "degrees" "LWattgovern$Amount;", Cond.fieldLink RX1 19 "Wattgovern$Body" "heatOfDegree" "I", Cond.methodLink RX1 31 yX0_add, Cond.instanceMethod yX0_add, Cond.selects RX0 yX0_add yX0_add, Cond.code yX0_add cX0_add 6 none, Cond.methodLink RX1 27 yX0_becomeQuotient, Cond.methodLink RX8 294 yX0_add, Cond.methodLink RX8 335 yX8_flowToCase, Cond.instanceMethod yX8_flowToCase, Cond.selects RX8 yX8_flowToCase yX8_flowToCase, Cond.code yX8_flowToCase cX8_flowToCase 8 none, Cond.fieldLink RX8 180 "Wattgovern$Body" "degrees" "LWattgovern$Amount;", Cond.fieldLink RX8 183 "Wattgovern$Cooling" "box" "LWattgovern$Body;"]
def wsX8_pass_r12 : List Cond := [Cond.methodLink RX8 438 yX0_isLess, Cond.instanceMethod yX0_isLess, Cond.selects RX0 yX0_isLess yX0_isLess, Cond.code yX0_isLess cX0_isLess 3 (some .boolean), Cond.methodLink RX8 442 yX0_becomeSame, Cond.instanceMethod yX0_becomeSame, Cond.selects RX0 yX0_becomeSame yX0_becomeSame, Cond.code yX0_becomeSame cX0_becomeSame 4 none, Cond.methodLink RX8 445 yX0_takeAway, Cond.instanceMethod yX0_takeAway, Cond.selects RX0 yX0_takeAway yX0_takeAway, Cond.code yX0_takeAway cX0_takeAway 6 none, Cond.methodLink RX8 448 yX1_giveAway, Cond.instanceMethod yX1_giveAway, Cond.selects RX1 yX1_giveAway yX1_giveAway, Cond.code yX1_giveAway cX1_giveAway 2 none, Cond.methodLink RX1 35 yX0_takeAway, Cond.methodLink RX8 338 yX2_giveToAir, Cond.instanceMethod yX2_giveToAir, Cond.selects RX2 yX2_giveToAir yX2_giveToAir, Cond.initialized RX2, Cond.code yX2_giveToAir cX2_giveToAir 2 none, Cond.fieldLink RX2 14 "Wattgovern$Cooling" "box" "LWattgovern$Body;", Cond.fieldLink RX2 43 "Wattgovern$Body" "degrees" "LWattgovern$Amount;"]
def wsX8_pass_r13 : List Cond := [Cond.fieldLink RX2 23 "Wattgovern$Cooling" "airDegrees" "LWattgovern$Amount;", Cond.fieldLink RX2 31 "Wattgovern$Cooling" "fanLevel" "I", Cond.fieldLink RX2 27 "Wattgovern$Cooling" "givenToAir" "J", Cond.methodLink RX2 46 yX0_becomeSame, Cond.methodLink RX2 50 yX0_takeAway, Cond.methodLink RX2 53 yX0_becomeProduct, Cond.methodLink RX2 57 yX0_becomeQuotient, Cond.methodLink RX2 60 yX1_giveAway, Cond.methodLink RX2 63 yX0_lowBits, Cond.methodLink RX8 341 yX2_stepFan, Cond.instanceMethod yX2_stepFan, Cond.selects RX2 yX2_stepFan yX2_stepFan, Cond.code yX2_stepFan cX2_stepFan 2 none, Cond.fieldLink RX2 35 "Wattgovern$Cooling" "fanDead" "Z", Cond.methodLink RX2 67 yX0_upTo, Cond.methodLink RX8 344 yX2_runFan, Cond.instanceMethod yX2_runFan, Cond.selects RX2 yX2_runFan yX2_runFan, Cond.code yX2_runFan cX2_runFan 2 (some .int), Cond.methodLink RX8 347 yX6_give, Cond.instanceMethod yX6_give, Cond.selects RX6 yX6_give yX6_give, Cond.initialized RX6, Cond.code yX6_give cX6_give 7 none]
def wsX8_pass_r14 : List Cond := [Cond.fieldLink RX6 9 "Wattgovern$Supply" "wallGives" "I", Cond.methodLink RX6 50 Lib.Math.min.name, Cond.fieldLink RX6 15 "Wattgovern$Supply" "battery" "I", Cond.fieldLink RX6 21 "Wattgovern$Supply" "taken" "J", Cond.fieldLink RX6 25 "Wattgovern$Supply" "owed" "J", Cond.fieldLink RX6 28 "Wattgovern$Supply" "isInDebt" "Z", Cond.fieldLink RX6 32 "Wattgovern$Supply" "sumFromWall" "J", Cond.fieldLink RX6 35 "Wattgovern$Supply" "sumFromBattery" "J", Cond.fieldLink RX6 38 "Wattgovern$Supply" "sumOwed" "J", Cond.fieldLink RX6 41 "Wattgovern$Supply" "sumTaken" "J", Cond.fieldLink RX6 18 "Wattgovern$Supply" "purse" "I", Cond.methodLink RX6 60 Lib.Math.max.name, Cond.methodLink RX6 44 yX0_upTo, Cond.methodLink RX6 56 yX0_lowBits]
def wsX8_pass : List Cond := .code yX8_pass cX8_pass 3 (some .int) :: ((wsX8_pass_r1 ++ (wsX8_pass_r2 ++ (wsX8_pass_r3 ++ (wsX8_pass_r4 ++ (wsX8_pass_r5 ++ (wsX8_pass_r6 ++ (wsX8_pass_r7 ++ (wsX8_pass_r8 ++ (wsX8_pass_r9 ++ (wsX8_pass_r10 ++ (wsX8_pass_r11 ++ (wsX8_pass_r12 ++ (wsX8_pass_r13 ++ wsX8_pass_r14))))))))))))) ++ wsX80 ++ wsX50 ++ wsX30 ++ wsX70 ++ wsX10 ++ wsX00 ++ wsX60 ++ wsX40 ++ wsX20 ++ (vx_atS RX8 75 "java/lang/IllegalArgumentException" ["java/lang/RuntimeException", "java/lang/Exception"]).filter goodWord ++ (vx_atS RX8 85 "java/lang/IllegalStateException" ["java/lang/RuntimeException", "java/lang/Exception"]).filter goodWord)
def wsX8_speed : List Cond := .code yX8_speed cX8_speed 2 (some .int) :: ([.fieldLink RX8 139 "Wattgovern$Core" "speed" "I", .methodLink RX8 86 yX8_coreAt, .instanceMethod yX8_coreAt, .selects RX8 yX8_coreAt yX8_coreAt, .initialized RX8, .code yX8_coreAt cX8_coreAt 3 (some (.object "Wattgovern$Core")), .classLink RX8 305 "java/lang/IndexOutOfBoundsException", .initialized "java/lang/IndexOutOfBoundsException", .fieldLink RX8 17 "Wattgovern" "cores" "[LWattgovern$Core;"] ++ wsX30 ++ wsX80 ++ (vx_atS RX8 309 "java/lang/IndexOutOfBoundsException" ["java/lang/RuntimeException", "java/lang/Exception"]).filter goodWord)
def wsX8_wanted : List Cond := .code yX8_wanted cX8_wanted 2 (some .int) :: ([.fieldLink RX8 142 "Wattgovern$Core" "wanted" "I", .methodLink RX8 86 yX8_coreAt, .instanceMethod yX8_coreAt, .selects RX8 yX8_coreAt yX8_coreAt, .initialized RX8, .code yX8_coreAt cX8_coreAt 3 (some (.object "Wattgovern$Core")), .classLink RX8 305 "java/lang/IndexOutOfBoundsException", .initialized "java/lang/IndexOutOfBoundsException", .fieldLink RX8 17 "Wattgovern" "cores" "[LWattgovern$Core;"] ++ wsX30 ++ wsX80 ++ (vx_atS RX8 309 "java/lang/IndexOutOfBoundsException" ["java/lang/RuntimeException", "java/lang/Exception"]).filter goodWord)
def wsX8_clamp : List Cond := .code yX8_clamp cX8_clamp 2 (some .char) :: ([.fieldLink RX8 145 "Wattgovern$Core" "clamp" "C", .methodLink RX8 86 yX8_coreAt, .instanceMethod yX8_coreAt, .selects RX8 yX8_coreAt yX8_coreAt, .initialized RX8, .code yX8_coreAt cX8_coreAt 3 (some (.object "Wattgovern$Core")), .classLink RX8 305 "java/lang/IndexOutOfBoundsException", .initialized "java/lang/IndexOutOfBoundsException", .fieldLink RX8 17 "Wattgovern" "cores" "[LWattgovern$Core;"] ++ wsX30 ++ wsX80 ++ (vx_atS RX8 309 "java/lang/IndexOutOfBoundsException" ["java/lang/RuntimeException", "java/lang/Exception"]).filter goodWord)
def wsX8_sleep : List Cond := .code yX8_sleep cX8_sleep 2 (some .char) :: ([.fieldLink RX8 148 "Wattgovern$Core" "sleep" "C", .methodLink RX8 86 yX8_coreAt, .instanceMethod yX8_coreAt, .selects RX8 yX8_coreAt yX8_coreAt, .initialized RX8, .code yX8_coreAt cX8_coreAt 3 (some (.object "Wattgovern$Core")), .classLink RX8 305 "java/lang/IndexOutOfBoundsException", .initialized "java/lang/IndexOutOfBoundsException", .fieldLink RX8 17 "Wattgovern" "cores" "[LWattgovern$Core;"] ++ wsX30 ++ wsX80 ++ (vx_atS RX8 309 "java/lang/IndexOutOfBoundsException" ["java/lang/RuntimeException", "java/lang/Exception"]).filter goodWord)
def wsX8_isBusy : List Cond := .code yX8_isBusy cX8_isBusy 2 (some .boolean) :: ([.methodLink RX8 86 yX8_coreAt, .instanceMethod yX8_coreAt, .selects RX8 yX8_coreAt yX8_coreAt, .initialized RX8, .code yX8_coreAt cX8_coreAt 3 (some (.object "Wattgovern$Core")), .classLink RX8 305 "java/lang/IndexOutOfBoundsException", .initialized "java/lang/IndexOutOfBoundsException", .fieldLink RX8 17 "Wattgovern" "cores" "[LWattgovern$Core;", .methodLink RX8 151 yX8_runningOn, .instanceMethod yX8_runningOn, .selects RX8 yX8_runningOn yX8_runningOn, .code yX8_runningOn cX8_runningOn 6 (some (.object "Wattgovern$Task")), .fieldLink RX8 23 "Wattgovern" "tasks" "[LWattgovern$Task;", .fieldLink RX8 112 "Wattgovern$Task" "core" "I", .fieldLink RX8 106 "Wattgovern$Task" "left" "I"] ++ wsX80 ++ wsX70 ++ (vx_atS RX8 309 "java/lang/IndexOutOfBoundsException" ["java/lang/RuntimeException", "java/lang/Exception"]).filter goodWord)
def wsX8_need_r1 : List Cond := [Cond.classLink RX8 71 "java/lang/IllegalArgumentException", Cond.initialized "java/lang/IllegalArgumentException", Cond.methodLink RX8 86 yX8_coreAt, Cond.instanceMethod yX8_coreAt, Cond.selects RX8 yX8_coreAt yX8_coreAt, Cond.initialized RX8, Cond.code yX8_coreAt cX8_coreAt 3 (some (.object "Wattgovern$Core")), Cond.classLink RX8 305 "java/lang/IndexOutOfBoundsException", Cond.initialized "java/lang/IndexOutOfBoundsException", Cond.fieldLink RX8 17 "Wattgovern" "cores" "[LWattgovern$Core;", Cond.methodLink RX8 154 yX3_greatestSpeed, Cond.instanceMethod yX3_greatestSpeed, Cond.selects RX3 yX3_greatestSpeed yX3_greatestSpeed, Cond.initialized RX3, Cond.code yX3_greatestSpeed cX3_greatestSpeed 1 (some .int), Cond.fieldLink RX3 78 "Wattgovern$Core" "big" "Z", Cond.methodLink RX8 91 yX8_isFrom, Cond.static yX8_isFrom, Cond.code yX8_isFrom cX8_isFrom 3 (some .boolean), Cond.methodLink RX8 160 yX3_voltsFor, Cond.instanceMethod yX3_voltsFor, Cond.selects RX3 yX3_voltsFor yX3_voltsFor, Cond.code yX3_voltsFor cX3_voltsFor 3 (some .int), Cond.fieldLink RX3 55 "Wattgovern$Core" "body" "LWattgovern$Body;"]
def wsX8_need_r2 : List Cond := [Cond.fieldLink RX3 85 "Wattgovern$Body" "degrees" "LWattgovern$Amount;", Cond.methodLink RX3 89 yX0_upTo, Cond.instanceMethod yX0_upTo, Cond.selects RX0 yX0_upTo yX0_upTo, Cond.initialized RX0, Cond.code yX0_upTo cX0_upTo 2 (some .int), Cond.fieldLink RX0 15 "Wattgovern$Amount" "used" "I", Cond.fieldLink RX0 9 "Wattgovern$Amount" "parts" "[J", Cond.methodLink RX3 81 yX3_inAge, Cond.instanceMethod yX3_inAge, Cond.selects RX3 yX3_inAge yX3_inAge, Cond.code yX3_inAge cX3_inAge 1 (some .int), Cond.fieldLink RX3 68 "Wattgovern$Core" "worn" "I"]
def wsX8_need : List Cond := .code yX8_need cX8_need 4 (some .int) :: ((wsX8_need_r1 ++ wsX8_need_r2) ++ wsX80 ++ wsX30 ++ wsX10 ++ wsX00 ++ (vx_atS RX8 75 "java/lang/IllegalArgumentException" ["java/lang/RuntimeException", "java/lang/Exception"]).filter goodWord ++ (vx_atS RX8 309 "java/lang/IndexOutOfBoundsException" ["java/lang/RuntimeException", "java/lang/Exception"]).filter goodWord)
def wsX8_volts : List Cond := .code yX8_volts cX8_volts 2 (some .int) :: ([.fieldLink RX8 164 "Wattgovern$Rail" "millivolts" "I", .methodLink RX8 67 yX8_railAt, .instanceMethod yX8_railAt, .selects RX8 yX8_railAt yX8_railAt, .initialized RX8, .code yX8_railAt cX8_railAt 3 (some (.object "Wattgovern$Rail")), .classLink RX8 305 "java/lang/IndexOutOfBoundsException", .initialized "java/lang/IndexOutOfBoundsException", .fieldLink RX8 11 "Wattgovern" "rails" "[LWattgovern$Rail;"] ++ wsX40 ++ wsX80 ++ (vx_atS RX8 309 "java/lang/IndexOutOfBoundsException" ["java/lang/RuntimeException", "java/lang/Exception"]).filter goodWord)
def wsX8_heat : List Cond := .code yX8_heat cX8_heat 2 (some .int) :: ([.fieldLink RX8 167 "Wattgovern$Core" "body" "LWattgovern$Body;", .fieldLink RX8 171 "Wattgovern$Body" "heat" "LWattgovern$Amount;", .methodLink RX8 86 yX8_coreAt, .instanceMethod yX8_coreAt, .selects RX8 yX8_coreAt yX8_coreAt, .initialized RX8, .code yX8_coreAt cX8_coreAt 3 (some (.object "Wattgovern$Core")), .classLink RX8 305 "java/lang/IndexOutOfBoundsException", .initialized "java/lang/IndexOutOfBoundsException", .fieldLink RX8 17 "Wattgovern" "cores" "[LWattgovern$Core;", .methodLink RX8 176 yX0_lowBits, .instanceMethod yX0_lowBits, .selects RX0 yX0_lowBits yX0_lowBits, .initialized RX0, .code yX0_lowBits cX0_lowBits 1 (some .long), .fieldLink RX0 9 "Wattgovern$Amount" "parts" "[J"] ++ wsX30 ++ wsX10 ++ wsX80 ++ wsX00 ++ (vx_atS RX8 309 "java/lang/IndexOutOfBoundsException" ["java/lang/RuntimeException", "java/lang/Exception"]).filter goodWord)
def wsX8_degrees : List Cond := .code yX8_degrees cX8_degrees 2 (some .int) :: ([.fieldLink RX8 167 "Wattgovern$Core" "body" "LWattgovern$Body;", .fieldLink RX8 180 "Wattgovern$Body" "degrees" "LWattgovern$Amount;", .methodLink RX8 86 yX8_coreAt, .instanceMethod yX8_coreAt, .selects RX8 yX8_coreAt yX8_coreAt, .initialized RX8, .code yX8_coreAt cX8_coreAt 3 (some (.object "Wattgovern$Core")), .classLink RX8 305 "java/lang/IndexOutOfBoundsException", .initialized "java/lang/IndexOutOfBoundsException", .fieldLink RX8 17 "Wattgovern" "cores" "[LWattgovern$Core;", .methodLink RX8 176 yX0_lowBits, .instanceMethod yX0_lowBits, .selects RX0 yX0_lowBits yX0_lowBits, .initialized RX0, .code yX0_lowBits cX0_lowBits 1 (some .long), .fieldLink RX0 9 "Wattgovern$Amount" "parts" "[J"] ++ wsX30 ++ wsX10 ++ wsX80 ++ wsX00 ++ (vx_atS RX8 309 "java/lang/IndexOutOfBoundsException" ["java/lang/RuntimeException", "java/lang/Exception"]).filter goodWord)
def wsX8_caseDegrees : List Cond := .code yX8_caseDegrees cX8_caseDegrees 1 (some .int) :: ([.fieldLink RX8 30 "Wattgovern" "cooling" "LWattgovern$Cooling;", .fieldLink RX8 183 "Wattgovern$Cooling" "box" "LWattgovern$Body;", .fieldLink RX8 180 "Wattgovern$Body" "degrees" "LWattgovern$Amount;", .methodLink RX8 176 yX0_lowBits, .instanceMethod yX0_lowBits, .selects RX0 yX0_lowBits yX0_lowBits, .initialized RX0, .code yX0_lowBits cX0_lowBits 1 (some .long), .fieldLink RX0 9 "Wattgovern$Amount" "parts" "[J"] ++ wsX80 ++ wsX20 ++ wsX10 ++ wsX00)
def wsX8_sensor : List Cond := .code yX8_sensor cX8_sensor 3 (some .int) :: ([.classLink RX8 190 "java/util/NoSuchElementException", .initialized "java/util/NoSuchElementException", .fieldLink RX8 186 "Wattgovern$Core" "sensorLost" "Z", .fieldLink RX8 195 "Wattgovern$Core" "sensorTells" "I", .methodLink RX8 86 yX8_coreAt, .instanceMethod yX8_coreAt, .selects RX8 yX8_coreAt yX8_coreAt, .initialized RX8, .code yX8_coreAt cX8_coreAt 3 (some (.object "Wattgovern$Core")), .classLink RX8 305 "java/lang/IndexOutOfBoundsException", .initialized "java/lang/IndexOutOfBoundsException", .fieldLink RX8 17 "Wattgovern" "cores" "[LWattgovern$Core;"] ++ wsX30 ++ wsX80 ++ (vx_atS RX8 194 "java/util/NoSuchElementException" ["java/lang/RuntimeException", "java/lang/Exception"]).filter goodWord ++ (vx_atS RX8 309 "java/lang/IndexOutOfBoundsException" ["java/lang/RuntimeException", "java/lang/Exception"]).filter goodWord)
def wsX8_lose : List Cond := .code yX8_lose cX8_lose 5 (some .boolean) :: ([.fieldLink RX8 186 "Wattgovern$Core" "sensorLost" "Z", .methodLink RX8 86 yX8_coreAt, .instanceMethod yX8_coreAt, .selects RX8 yX8_coreAt yX8_coreAt, .initialized RX8, .code yX8_coreAt cX8_coreAt 3 (some (.object "Wattgovern$Core")), .classLink RX8 305 "java/lang/IndexOutOfBoundsException", .initialized "java/lang/IndexOutOfBoundsException", .fieldLink RX8 17 "Wattgovern" "cores" "[LWattgovern$Core;"] ++ wsX30 ++ wsX80 ++ (vx_atS RX8 309 "java/lang/IndexOutOfBoundsException" ["java/lang/RuntimeException", "java/lang/Exception"]).filter goodWord)
def wsX8_isTripped : List Cond := .code yX8_isTripped cX8_isTripped 2 (some .boolean) :: ([.fieldLink RX8 198 "Wattgovern$Core" "tripped" "Z", .methodLink RX8 86 yX8_coreAt, .instanceMethod yX8_coreAt, .selects RX8 yX8_coreAt yX8_coreAt, .initialized RX8, .code yX8_coreAt cX8_coreAt 3 (some (.object "Wattgovern$Core")), .classLink RX8 305 "java/lang/IndexOutOfBoundsException", .initialized "java/lang/IndexOutOfBoundsException", .fieldLink RX8 17 "Wattgovern" "cores" "[LWattgovern$Core;"] ++ wsX30 ++ wsX80 ++ (vx_atS RX8 309 "java/lang/IndexOutOfBoundsException" ["java/lang/RuntimeException", "java/lang/Exception"]).filter goodWord)
def wsX8_fan : List Cond := .code yX8_fan cX8_fan 1 (some .int) :: ([.fieldLink RX8 30 "Wattgovern" "cooling" "LWattgovern$Cooling;", .fieldLink RX8 201 "Wattgovern$Cooling" "fanLevel" "I"] ++ wsX80 ++ wsX20)
def wsX8_killFan : List Cond := .code yX8_killFan cX8_killFan 3 (some .boolean) :: ([.fieldLink RX8 30 "Wattgovern" "cooling" "LWattgovern$Cooling;", .fieldLink RX8 204 "Wattgovern$Cooling" "fanDead" "Z", .fieldLink RX8 201 "Wattgovern$Cooling" "fanLevel" "I"] ++ wsX80 ++ wsX20)
def wsX8_heatUp_r1 : List Cond := [Cond.classLink RX8 71 "java/lang/IllegalArgumentException", Cond.initialized "java/lang/IllegalArgumentException", Cond.classLink RX8 81 "java/lang/IllegalStateException", Cond.initialized "java/lang/IllegalStateException", Cond.fieldLink RX8 167 "Wattgovern$Core" "body" "LWattgovern$Body;", Cond.fieldLink RX8 171 "Wattgovern$Body" "heat" "LWattgovern$Amount;", Cond.constant RX8 90 (99999), Cond.fieldLink RX8 55 "Wattgovern" "passing" "LWattgovern$Amount;", Cond.fieldLink RX8 62 "Wattgovern" "heatFromOutside" "J", Cond.fieldLink RX8 180 "Wattgovern$Body" "degrees" "LWattgovern$Amount;", Cond.methodLink RX8 86 yX8_coreAt, Cond.instanceMethod yX8_coreAt, Cond.selects RX8 yX8_coreAt yX8_coreAt, Cond.initialized RX8, Cond.code yX8_coreAt cX8_coreAt 3 (some (.object "Wattgovern$Core")), Cond.classLink RX8 305 "java/lang/IndexOutOfBoundsException", Cond.initialized "java/lang/IndexOutOfBoundsException", Cond.fieldLink RX8 17 "Wattgovern" "cores" "[LWattgovern$Core;", Cond.methodLink RX8 91 yX8_isFrom, Cond.static yX8_isFrom, Cond.code yX8_isFrom cX8_isFrom 3 (some .boolean), Cond.methodLink RX8 207 yX0_upTo, Cond.instanceMethod yX0_upTo, Cond.selects RX0 yX0_upTo yX0_upTo]
def wsX8_heatUp_r2 : List Cond := [Cond.initialized RX0, Cond.code yX0_upTo cX0_upTo 2 (some .int), Cond.fieldLink RX0 15 "Wattgovern$Amount" "used" "I", Cond.fieldLink RX0 9 "Wattgovern$Amount" "parts" "[J", Cond.methodLink RX8 212 yX0_become, Cond.instanceMethod yX0_become, Cond.selects RX0 yX0_become yX0_become, Cond.code yX0_become cX0_become 4 none, Cond.methodLink RX0 19 yX0_reach, Cond.instanceMethod yX0_reach, Cond.selects RX0 yX0_reach yX0_reach, Cond.code yX0_reach cX0_reach 2 (some .int), Cond.methodLink RX0 38 Lib.Math.max.name, Cond.static Lib.Math.max.name, Cond.initialized "java/lang/Math", Cond.code Lib.Math.max.name Lib.Math.max.code 2 (some .int), Cond.methodLink RX0 44 Lib.Math.min.name, Cond.static Lib.Math.min.name, Cond.code Lib.Math.min.name Lib.Math.min.code 2 (some .int), Cond.methodLink RX0 23 yX0_dropZeros, Cond.instanceMethod yX0_dropZeros, Cond.selects RX0 yX0_dropZeros yX0_dropZeros, Cond.code yX0_dropZeros cX0_dropZeros 1 none, Cond.methodLink RX8 216 yX1_gain]
def wsX8_heatUp_r3 : List Cond := [Cond.instanceMethod yX1_gain, Cond.selects RX1 yX1_gain yX1_gain, Cond.initialized RX1, Cond.code yX1_gain cX1_gain 2 none, Cond.fieldLink RX1 10 "Wattgovern$Body" "heat" "LWattgovern$Amount;", Cond.fieldLink RX1 16 "Wattgovern$Body" "degrees" "LWattgovern$Amount;", Cond.fieldLink RX1 19 "Wattgovern$Body" "heatOfDegree" "I", Cond.methodLink RX1 31 yX0_add, Cond.instanceMethod yX0_add, Cond.selects RX0 yX0_add yX0_add, Cond.code yX0_add cX0_add 6 none, Cond.constantLong RX0 26 (4294967295), Cond.methodLink RX0 28 yX0_putOnTop, Cond.instanceMethod yX0_putOnTop, Cond.selects RX0 yX0_putOnTop yX0_putOnTop, Cond.code yX0_putOnTop cX0_putOnTop 3 none, Cond.methodLink RX1 27 yX0_becomeQuotient, Cond.instanceMethod yX0_becomeQuotient, Cond.selects RX0 yX0_becomeQuotient yX0_becomeQuotient, Cond.code yX0_becomeQuotient cX0_becomeQuotient 6 none, Cond.methodLink RX8 176 yX0_lowBits, Cond.instanceMethod yX0_lowBits, Cond.selects RX0 yX0_lowBits yX0_lowBits, Cond.code yX0_lowBits cX0_lowBits 1 (some .long)]
def wsX8_heatUp : List Cond := .code yX8_heatUp cX8_heatUp 4 (some .int) :: ((wsX8_heatUp_r1 ++ (wsX8_heatUp_r2 ++ wsX8_heatUp_r3)) ++ wsX30 ++ wsX10 ++ wsX80 ++ wsX00 ++ (vx_atS RX8 75 "java/lang/IllegalArgumentException" ["java/lang/RuntimeException", "java/lang/Exception"]).filter goodWord ++ (vx_atS RX8 85 "java/lang/IllegalStateException" ["java/lang/RuntimeException", "java/lang/Exception"]).filter goodWord ++ (vx_atS RX8 309 "java/lang/IndexOutOfBoundsException" ["java/lang/RuntimeException", "java/lang/Exception"]).filter goodWord)
def wsX8_wall : List Cond := .code yX8_wall cX8_wall 3 (some .int) :: ([.classLink RX8 71 "java/lang/IllegalArgumentException", .initialized "java/lang/IllegalArgumentException", .fieldLink RX8 37 "Wattgovern" "supply" "LWattgovern$Supply;", .fieldLink RX8 220 "Wattgovern$Supply" "wallGives" "I", .methodLink RX8 91 yX8_isFrom, .static yX8_isFrom, .initialized RX8, .code yX8_isFrom cX8_isFrom 3 (some .boolean)] ++ wsX80 ++ wsX60 ++ (vx_atS RX8 75 "java/lang/IllegalArgumentException" ["java/lang/RuntimeException", "java/lang/Exception"]).filter goodWord)
def wsX8_battery : List Cond := .code yX8_battery cX8_battery 1 (some .int) :: ([.fieldLink RX8 37 "Wattgovern" "supply" "LWattgovern$Supply;", .fieldLink RX8 223 "Wattgovern$Supply" "battery" "I"] ++ wsX80 ++ wsX60)
def wsX8_purse : List Cond := .code yX8_purse cX8_purse 1 (some .int) :: ([.fieldLink RX8 37 "Wattgovern" "supply" "LWattgovern$Supply;", .fieldLink RX8 226 "Wattgovern$Supply" "purse" "I"] ++ wsX80 ++ wsX60)
def wsX8_taken : List Cond := .code yX8_taken cX8_taken 1 (some .int) :: ([.fieldLink RX8 37 "Wattgovern" "supply" "LWattgovern$Supply;", .fieldLink RX8 229 "Wattgovern$Supply" "taken" "J"] ++ wsX80 ++ wsX60)
def wsX8_owed : List Cond := .code yX8_owed cX8_owed 1 (some .int) :: ([.fieldLink RX8 37 "Wattgovern" "supply" "LWattgovern$Supply;", .fieldLink RX8 232 "Wattgovern$Supply" "owed" "J"] ++ wsX80 ++ wsX60)
def wsX8_request : List Cond := .code yX8_request cX8_request 3 (some .int) :: ([.classLink RX8 71 "java/lang/IllegalArgumentException", .initialized "java/lang/IllegalArgumentException", .classLink RX8 115 "java/lang/UnsupportedOperationException", .initialized "java/lang/UnsupportedOperationException", .fieldLink RX8 44 "Wattgovern" "requests" "LWattgovern$Requests;", .fieldLink RX8 235 "Wattgovern$Requests" "whyRefused" "C", .fieldLink RX8 238 "Wattgovern$Requests" "greatestNumber" "I", .fieldLink RX8 247 "Wattgovern$Requests" "made" "I", .methodLink RX8 91 yX8_isFrom, .static yX8_isFrom, .initialized RX8, .code yX8_isFrom cX8_isFrom 3 (some .boolean), .methodLink RX8 243 yX5_take, .instanceMethod yX5_take, .selects RX5 yX5_take yX5_take, .initialized RX5, .code yX5_take cX5_take 3 none, .fieldLink RX5 9 "Wattgovern$Requests" "made" "I", .fieldLink RX5 15 "Wattgovern$Requests" "greatestNumber" "I", .fieldLink RX5 24 "Wattgovern$Requests" "waitingNumber" "I", .fieldLink RX5 27 "Wattgovern$Requests" "waitingSpeed" "I"] ++ wsX80 ++ wsX50 ++ (vx_atS RX8 75 "java/lang/IllegalArgumentException" ["java/lang/RuntimeException", "java/lang/Exception"]).filter goodWord ++ (vx_atS RX8 119 "java/lang/UnsupportedOperationException" ["java/lang/RuntimeException", "java/lang/Exception"]).filter goodWord)
def wsX8_holds : List Cond := .code yX8_holds cX8_holds 1 (some .int) :: ([.fieldLink RX8 44 "Wattgovern" "requests" "LWattgovern$Requests;", .fieldLink RX8 250 "Wattgovern$Requests" "heldNumber" "I"] ++ wsX80 ++ wsX50)
def wsX8_why : List Cond := .code yX8_why cX8_why 1 (some .char) :: ([.fieldLink RX8 44 "Wattgovern" "requests" "LWattgovern$Requests;", .fieldLink RX8 235 "Wattgovern$Requests" "whyRefused" "C"] ++ wsX80 ++ wsX50)
def wsX8_drop : List Cond := .code yX8_drop cX8_drop 1 (some .boolean) :: ([.fieldLink RX8 44 "Wattgovern" "requests" "LWattgovern$Requests;", .methodLink RX8 253 yX5_dropBoth, .instanceMethod yX5_dropBoth, .selects RX5 yX5_dropBoth yX5_dropBoth, .initialized RX5, .code yX5_dropBoth cX5_dropBoth 2 (some .boolean), .fieldLink RX5 18 "Wattgovern$Requests" "heldNumber" "I", .fieldLink RX5 24 "Wattgovern$Requests" "waitingNumber" "I"] ++ wsX80 ++ wsX50)
def wsX8_age : List Cond := .code yX8_age cX8_age 2 (some .int) :: ([.methodLink RX8 86 yX8_coreAt, .instanceMethod yX8_coreAt, .selects RX8 yX8_coreAt yX8_coreAt, .initialized RX8, .code yX8_coreAt cX8_coreAt 3 (some (.object "Wattgovern$Core")), .classLink RX8 305 "java/lang/IndexOutOfBoundsException", .initialized "java/lang/IndexOutOfBoundsException", .fieldLink RX8 17 "Wattgovern" "cores" "[LWattgovern$Core;", .methodLink RX8 257 yX3_inAge, .instanceMethod yX3_inAge, .selects RX3 yX3_inAge yX3_inAge, .initialized RX3, .code yX3_inAge cX3_inAge 1 (some .int), .fieldLink RX3 68 "Wattgovern$Core" "worn" "I"] ++ wsX80 ++ wsX30 ++ (vx_atS RX8 309 "java/lang/IndexOutOfBoundsException" ["java/lang/RuntimeException", "java/lang/Exception"]).filter goodWord)
def wsX8_isRetired : List Cond := .code yX8_isRetired cX8_isRetired 2 (some .boolean) :: ([.methodLink RX8 86 yX8_coreAt, .instanceMethod yX8_coreAt, .selects RX8 yX8_coreAt yX8_coreAt, .initialized RX8, .code yX8_coreAt cX8_coreAt 3 (some (.object "Wattgovern$Core")), .classLink RX8 305 "java/lang/IndexOutOfBoundsException", .initialized "java/lang/IndexOutOfBoundsException", .fieldLink RX8 17 "Wattgovern" "cores" "[LWattgovern$Core;", .methodLink RX8 260 yX3_isTooOld, .instanceMethod yX3_isTooOld, .selects RX3 yX3_isTooOld yX3_isTooOld, .initialized RX3, .code yX3_isTooOld cX3_isTooOld 1 (some .boolean), .methodLink RX3 81 yX3_inAge, .instanceMethod yX3_inAge, .selects RX3 yX3_inAge yX3_inAge, .code yX3_inAge cX3_inAge 1 (some .int), .fieldLink RX3 68 "Wattgovern$Core" "worn" "I"] ++ wsX80 ++ wsX30 ++ (vx_atS RX8 309 "java/lang/IndexOutOfBoundsException" ["java/lang/RuntimeException", "java/lang/Exception"]).filter goodWord)
def wsX8_wear : List Cond := .code yX8_wear cX8_wear 4 (some .int) :: ([.classLink RX8 71 "java/lang/IllegalArgumentException", .initialized "java/lang/IllegalArgumentException", .classLink RX8 81 "java/lang/IllegalStateException", .initialized "java/lang/IllegalStateException", .fieldLink RX8 263 "Wattgovern$Core" "worn" "I", .methodLink RX8 86 yX8_coreAt, .instanceMethod yX8_coreAt, .selects RX8 yX8_coreAt yX8_coreAt, .initialized RX8, .code yX8_coreAt cX8_coreAt 3 (some (.object "Wattgovern$Core")), .classLink RX8 305 "java/lang/IndexOutOfBoundsException", .initialized "java/lang/IndexOutOfBoundsException", .fieldLink RX8 17 "Wattgovern" "cores" "[LWattgovern$Core;", .methodLink RX8 91 yX8_isFrom, .static yX8_isFrom, .code yX8_isFrom cX8_isFrom 3 (some .boolean)] ++ wsX30 ++ wsX80 ++ (vx_atS RX8 75 "java/lang/IllegalArgumentException" ["java/lang/RuntimeException", "java/lang/Exception"]).filter goodWord ++ (vx_atS RX8 85 "java/lang/IllegalStateException" ["java/lang/RuntimeException", "java/lang/Exception"]).filter goodWord ++ (vx_atS RX8 309 "java/lang/IndexOutOfBoundsException" ["java/lang/RuntimeException", "java/lang/Exception"]).filter goodWord)
def wsX8_account : List Cond := .code yX8_account cX8_account 2 (some .long) :: ([.classLink RX8 71 "java/lang/IllegalArgumentException", .initialized "java/lang/IllegalArgumentException", .fieldLink RX8 37 "Wattgovern" "supply" "LWattgovern$Supply;", .fieldLink RX8 268 "Wattgovern$Supply" "sumFromWall" "J", .fieldLink RX8 271 "Wattgovern$Supply" "sumFromBattery" "J", .fieldLink RX8 274 "Wattgovern$Supply" "sumOwed" "J", .fieldLink RX8 62 "Wattgovern" "heatFromOutside" "J", .fieldLink RX8 30 "Wattgovern" "cooling" "LWattgovern$Cooling;", .fieldLink RX8 277 "Wattgovern$Cooling" "givenToAir" "J", .fieldLink RX8 280 "Wattgovern$Supply" "sumTaken" "J"] ++ wsX80 ++ wsX60 ++ wsX20 ++ (vx_atS RX8 75 "java/lang/IllegalArgumentException" ["java/lang/RuntimeException", "java/lang/Exception"]).filter goodWord)
def wsX8_checksum : List Cond := .code yX8_checksum cX8_checksum 7 (some .long) :: ([.constantLong RX8 285 (7), .fieldLink RX8 17 "Wattgovern" "cores" "[LWattgovern$Core;", .constantLong RX8 287 (31), .fieldLink RX8 139 "Wattgovern$Core" "speed" "I", .fieldLink RX8 167 "Wattgovern$Core" "body" "LWattgovern$Body;", .fieldLink RX8 171 "Wattgovern$Body" "heat" "LWattgovern$Amount;", .fieldLink RX8 23 "Wattgovern" "tasks" "[LWattgovern$Task;", .fieldLink RX8 106 "Wattgovern$Task" "left" "I", .fieldLink RX8 30 "Wattgovern" "cooling" "LWattgovern$Cooling;", .fieldLink RX8 183 "Wattgovern$Cooling" "box" "LWattgovern$Body;", .fieldLink RX8 37 "Wattgovern" "supply" "LWattgovern$Supply;", .fieldLink RX8 223 "Wattgovern$Supply" "battery" "I", .methodLink RX8 176 yX0_lowBits, .instanceMethod yX0_lowBits, .selects RX0 yX0_lowBits yX0_lowBits, .initialized RX0, .code yX0_lowBits cX0_lowBits 1 (some .long), .fieldLink RX0 9 "Wattgovern$Amount" "parts" "[J"] ++ wsX80 ++ wsX30 ++ wsX10 ++ wsX70 ++ wsX20 ++ wsX60 ++ wsX00)
def wsX8_busyShare : List Cond := .code yX8_busyShare cX8_busyShare 7 (some .float) :: ([.classLink RX8 190 "java/util/NoSuchElementException", .initialized "java/util/NoSuchElementException", .fieldLink RX8 17 "Wattgovern" "cores" "[LWattgovern$Core;", .fieldLink RX8 289 "Wattgovern$Core" "number" "I", .methodLink RX8 151 yX8_runningOn, .instanceMethod yX8_runningOn, .selects RX8 yX8_runningOn yX8_runningOn, .initialized RX8, .code yX8_runningOn cX8_runningOn 6 (some (.object "Wattgovern$Task")), .fieldLink RX8 23 "Wattgovern" "tasks" "[LWattgovern$Task;", .fieldLink RX8 112 "Wattgovern$Task" "core" "I", .fieldLink RX8 106 "Wattgovern$Task" "left" "I"] ++ wsX80 ++ wsX30 ++ wsX70 ++ (vx_atS RX8 194 "java/util/NoSuchElementException" ["java/lang/RuntimeException", "java/lang/Exception"]).filter goodWord)
def wsX8_meanDegrees_r1 : List Cond := [Cond.classLink RX8 190 "java/util/NoSuchElementException", Cond.initialized "java/util/NoSuchElementException", Cond.fieldLink RX8 55 "Wattgovern" "passing" "LWattgovern$Amount;", Cond.fieldLink RX8 17 "Wattgovern" "cores" "[LWattgovern$Core;", Cond.fieldLink RX8 167 "Wattgovern$Core" "body" "LWattgovern$Body;", Cond.fieldLink RX8 180 "Wattgovern$Body" "degrees" "LWattgovern$Amount;", Cond.methodLink RX8 212 yX0_become, Cond.instanceMethod yX0_become, Cond.selects RX0 yX0_become yX0_become, Cond.initialized RX0, Cond.code yX0_become cX0_become 4 none, Cond.fieldLink RX0 9 "Wattgovern$Amount" "parts" "[J", Cond.fieldLink RX0 15 "Wattgovern$Amount" "used" "I", Cond.methodLink RX0 19 yX0_reach, Cond.instanceMethod yX0_reach, Cond.selects RX0 yX0_reach yX0_reach, Cond.code yX0_reach cX0_reach 2 (some .int), Cond.methodLink RX0 38 Lib.Math.max.name, Cond.static Lib.Math.max.name, Cond.initialized "java/lang/Math", Cond.code Lib.Math.max.name Lib.Math.max.code 2 (some .int), Cond.methodLink RX0 44 Lib.Math.min.name, Cond.static Lib.Math.min.name, Cond.code Lib.Math.min.name Lib.Math.min.code 2 (some .int)]
def wsX8_meanDegrees_r2 : List Cond := [Cond.methodLink RX0 23 yX0_dropZeros, Cond.instanceMethod yX0_dropZeros, Cond.selects RX0 yX0_dropZeros yX0_dropZeros, Cond.code yX0_dropZeros cX0_dropZeros 1 none, Cond.methodLink RX8 294 yX0_add, Cond.instanceMethod yX0_add, Cond.selects RX0 yX0_add yX0_add, Cond.code yX0_add cX0_add 6 none, Cond.constantLong RX0 26 (4294967295), Cond.methodLink RX0 28 yX0_putOnTop, Cond.instanceMethod yX0_putOnTop, Cond.selects RX0 yX0_putOnTop yX0_putOnTop, Cond.code yX0_putOnTop cX0_putOnTop 3 none, Cond.methodLink RX8 297 yX0_toDouble, Cond.instanceMethod yX0_toDouble, Cond.selects RX0 yX0_toDouble yX0_toDouble, Cond.code yX0_toDouble cX0_toDouble 8 (some .double), Cond.constantLong RX0 32 (2305843009213693952), Cond.constantLong RX0 34 (2), Cond.constantDouble RX0 36 (4611686018427387904)]
def wsX8_meanDegrees : List Cond := .code yX8_meanDegrees cX8_meanDegrees 6 (some .double) :: ((wsX8_meanDegrees_r1 ++ wsX8_meanDegrees_r2) ++ wsX80 ++ wsX30 ++ wsX10 ++ wsX00 ++ (vx_atS RX8 194 "java/util/NoSuchElementException" ["java/lang/RuntimeException", "java/lang/Exception"]).filter goodWord)
def wsX8_isSound : List Cond := .code yX8_isSound cX8_isSound 9 (some .boolean) :: ([.fieldLink RX8 30 "Wattgovern" "cooling" "LWattgovern$Cooling;", .fieldLink RX8 183 "Wattgovern$Cooling" "box" "LWattgovern$Body;", .fieldLink RX8 171 "Wattgovern$Body" "heat" "LWattgovern$Amount;", .constantLong RX8 301 (4000), .fieldLink RX8 17 "Wattgovern" "cores" "[LWattgovern$Core;", .fieldLink RX8 167 "Wattgovern$Core" "body" "LWattgovern$Body;", .constantLong RX8 303 (400), .fieldLink RX8 277 "Wattgovern$Cooling" "givenToAir" "J", .fieldLink RX8 37 "Wattgovern" "supply" "LWattgovern$Supply;", .fieldLink RX8 280 "Wattgovern$Supply" "sumTaken" "J", .fieldLink RX8 62 "Wattgovern" "heatFromOutside" "J", .fieldLink RX8 268 "Wattgovern$Supply" "sumFromWall" "J", .fieldLink RX8 271 "Wattgovern$Supply" "sumFromBattery" "J", .fieldLink RX8 274 "Wattgovern$Supply" "sumOwed" "J", .fieldLink RX8 223 "Wattgovern$Supply" "battery" "I", .methodLink RX8 176 yX0_lowBits, .instanceMethod yX0_lowBits, .selects RX0 yX0_lowBits yX0_lowBits, .initialized RX0, .code yX0_lowBits cX0_lowBits 1 (some .long), .fieldLink RX0 9 "Wattgovern$Amount" "parts" "[J"] ++ wsX80 ++ wsX20 ++ wsX10 ++ wsX30 ++ wsX60 ++ wsX00)
theorem dX0_init_0 : decode cX0_init 0 = .ok (.aload_n 0, 1) := by decide +kernel
theorem dX0_init_1 : decode cX0_init 1 = .ok (.invokespecial 3, 3) := by decide +kernel
theorem dX0_init_4 : decode cX0_init 4 = .ok (.aload_n 0, 1) := by decide +kernel
theorem dX0_init_5 : decode cX0_init 5 = .ok (.bipush 16, 2) := by decide +kernel
theorem dX0_init_7 : decode cX0_init 7 = .ok (.newarray .long, 2) := by decide +kernel
theorem dX0_init_9 : decode cX0_init 9 = .ok (.putfield 9, 3) := by decide +kernel
theorem dX0_init_12 : decode cX0_init 12 = .ok (.aload_n 0, 1) := by decide +kernel
theorem dX0_init_13 : decode cX0_init 13 = .ok (.iconst 0, 1) := by decide +kernel
theorem dX0_init_14 : decode cX0_init 14 = .ok (.putfield 15, 3) := by decide +kernel
theorem dX0_init_17 : decode cX0_init 17 = .ok (.return_, 1) := by decide +kernel
set_option maxRecDepth 20000 in
theorem ggX0_become_X0_reach : GoodIn wsX0_become wsX0_reach := goodIn_r _ [7, 1, 2, 8, 9, 10, 11, 12, 13, 14, 19, 20] (by decide +kernel) (by decide +kernel)
set_option maxRecDepth 20000 in
theorem gX0_become_X0_reach : GoodIn wsX0_become (wsV RX0 19 RX0 yX0_reach wsX0_reach) := goodIn_app (goodIn_of _ (by decide +kernel)) ggX0_become_X0_reach
set_option maxRecDepth 20000 in
theorem ggX0_become_X0_dropZeros : GoodIn wsX0_become wsX0_dropZeros := goodIn_r _ [18, 2, 1, 19, 20] (by decide +kernel) (by decide +kernel)
set_option maxRecDepth 20000 in
theorem gX0_become_X0_dropZeros : GoodIn wsX0_become (wsV RX0 23 RX0 yX0_dropZeros wsX0_dropZeros) := goodIn_app (goodIn_of _ (by decide +kernel)) ggX0_become_X0_dropZeros
theorem dX0_become_0 : decode cX0_become 0 = .ok (.aload_n 0, 1) := by decide +kernel
theorem dX0_become_1 : decode cX0_become 1 = .ok (.aload_n 0, 1) := by decide +kernel
theorem dX0_become_2 : decode cX0_become 2 = .ok (.invokevirtual 19, 3) := by decide +kernel
theorem dX0_become_5 : decode cX0_become 5 = .ok (.istore_n 2, 1) := by decide +kernel
theorem dX0_become_6 : decode cX0_become 6 = .ok (.iconst 0, 1) := by decide +kernel
theorem dX0_become_7 : decode cX0_become 7 = .ok (.istore_n 3, 1) := by decide +kernel
theorem dX0_become_8 : decode cX0_become 8 = .ok (.iload_n 3, 1) := by decide +kernel
theorem dX0_become_9 : decode cX0_become 9 = .ok (.iload_n 2, 1) := by decide +kernel
theorem dX0_become_10 : decode cX0_become 10 = .ok (.if_icmp .ge 16, 3) := by decide +kernel
theorem dX0_become_13 : decode cX0_become 13 = .ok (.aload_n 0, 1) := by decide +kernel
theorem dX0_become_14 : decode cX0_become 14 = .ok (.getfield 9, 3) := by decide +kernel
theorem dX0_become_17 : decode cX0_become 17 = .ok (.iload_n 3, 1) := by decide +kernel
theorem dX0_become_18 : decode cX0_become 18 = .ok (.lconst 0, 1) := by decide +kernel
theorem dX0_become_19 : decode cX0_become 19 = .ok (.lastore, 1) := by decide +kernel
theorem dX0_become_20 : decode cX0_become 20 = .ok (.iinc 3 1, 3) := by decide +kernel
theorem dX0_become_23 : decode cX0_become 23 = .ok (.goto (-15), 3) := by decide +kernel
theorem dX0_become_26 : decode cX0_become 26 = .ok (.aload_n 0, 1) := by decide +kernel
theorem dX0_become_27 : decode cX0_become 27 = .ok (.getfield 9, 3) := by decide +kernel
theorem dX0_become_30 : decode cX0_become 30 = .ok (.iconst 0, 1) := by decide +kernel
theorem dX0_become_31 : decode cX0_become 31 = .ok (.iload_n 1, 1) := by decide +kernel
theorem dX0_become_32 : decode cX0_become 32 = .ok (.i2l, 1) := by decide +kernel
theorem dX0_become_33 : decode cX0_become 33 = .ok (.lastore, 1) := by decide +kernel
theorem dX0_become_34 : decode cX0_become 34 = .ok (.aload_n 0, 1) := by decide +kernel
theorem dX0_become_35 : decode cX0_become 35 = .ok (.iconst 1, 1) := by decide +kernel
theorem dX0_become_36 : decode cX0_become 36 = .ok (.putfield 15, 3) := by decide +kernel
theorem dX0_become_39 : decode cX0_become 39 = .ok (.aload_n 0, 1) := by decide +kernel
theorem dX0_become_40 : decode cX0_become 40 = .ok (.invokevirtual 23, 3) := by decide +kernel
theorem dX0_become_43 : decode cX0_become 43 = .ok (.return_, 1) := by decide +kernel
set_option maxRecDepth 20000 in
theorem ggX0_becomeSame_X0_reach : GoodIn wsX0_becomeSame wsX0_reach := goodIn_r _ [7, 1, 2, 8, 9, 10, 11, 12, 13, 14, 19, 20] (by decide +kernel) (by decide +kernel)
set_option maxRecDepth 20000 in
theorem gX0_becomeSame_X0_reach : GoodIn wsX0_becomeSame (wsV RX0 19 RX0 yX0_reach wsX0_reach) := goodIn_app (goodIn_of _ (by decide +kernel)) ggX0_becomeSame_X0_reach
set_option maxRecDepth 20000 in
theorem ggX0_becomeSame_X0_dropZeros : GoodIn wsX0_becomeSame wsX0_dropZeros := goodIn_r _ [18, 2, 1, 19, 20] (by decide +kernel) (by decide +kernel)
set_option maxRecDepth 20000 in
theorem gX0_becomeSame_X0_dropZeros : GoodIn wsX0_becomeSame (wsV RX0 23 RX0 yX0_dropZeros wsX0_dropZeros) := goodIn_app (goodIn_of _ (by decide +kernel)) ggX0_becomeSame_X0_dropZeros
theorem dX0_becomeSame_0 : decode cX0_becomeSame 0 = .ok (.aload_n 0, 1) := by decide +kernel
theorem dX0_becomeSame_1 : decode cX0_becomeSame 1 = .ok (.aload_n 1, 1) := by decide +kernel
theorem dX0_becomeSame_2 : decode cX0_becomeSame 2 = .ok (.invokevirtual 19, 3) := by decide +kernel
theorem dX0_becomeSame_5 : decode cX0_becomeSame 5 = .ok (.istore_n 2, 1) := by decide +kernel
theorem dX0_becomeSame_6 : decode cX0_becomeSame 6 = .ok (.iconst 0, 1) := by decide +kernel
theorem dX0_becomeSame_7 : decode cX0_becomeSame 7 = .ok (.istore_n 3, 1) := by decide +kernel
theorem dX0_becomeSame_8 : decode cX0_becomeSame 8 = .ok (.iload_n 3, 1) := by decide +kernel
theorem dX0_becomeSame_9 : decode cX0_becomeSame 9 = .ok (.iload_n 2, 1) := by decide +kernel
theorem dX0_becomeSame_10 : decode cX0_becomeSame 10 = .ok (.if_icmp .ge 21, 3) := by decide +kernel
theorem dX0_becomeSame_13 : decode cX0_becomeSame 13 = .ok (.aload_n 0, 1) := by decide +kernel
theorem dX0_becomeSame_14 : decode cX0_becomeSame 14 = .ok (.getfield 9, 3) := by decide +kernel
theorem dX0_becomeSame_17 : decode cX0_becomeSame 17 = .ok (.iload_n 3, 1) := by decide +kernel
theorem dX0_becomeSame_18 : decode cX0_becomeSame 18 = .ok (.aload_n 1, 1) := by decide +kernel
theorem dX0_becomeSame_19 : decode cX0_becomeSame 19 = .ok (.getfield 9, 3) := by decide +kernel
theorem dX0_becomeSame_22 : decode cX0_becomeSame 22 = .ok (.iload_n 3, 1) := by decide +kernel
theorem dX0_becomeSame_23 : decode cX0_becomeSame 23 = .ok (.laload, 1) := by decide +kernel
theorem dX0_becomeSame_24 : decode cX0_becomeSame 24 = .ok (.lastore, 1) := by decide +kernel
theorem dX0_becomeSame_25 : decode cX0_becomeSame 25 = .ok (.iinc 3 1, 3) := by decide +kernel
theorem dX0_becomeSame_28 : decode cX0_becomeSame 28 = .ok (.goto (-20), 3) := by decide +kernel
theorem dX0_becomeSame_31 : decode cX0_becomeSame 31 = .ok (.aload_n 0, 1) := by decide +kernel
theorem dX0_becomeSame_32 : decode cX0_becomeSame 32 = .ok (.iload_n 2, 1) := by decide +kernel
theorem dX0_becomeSame_33 : decode cX0_becomeSame 33 = .ok (.putfield 15, 3) := by decide +kernel
theorem dX0_becomeSame_36 : decode cX0_becomeSame 36 = .ok (.aload_n 0, 1) := by decide +kernel
theorem dX0_becomeSame_37 : decode cX0_becomeSame 37 = .ok (.invokevirtual 23, 3) := by decide +kernel
theorem dX0_becomeSame_40 : decode cX0_becomeSame 40 = .ok (.return_, 1) := by decide +kernel
set_option maxRecDepth 20000 in
theorem ggX0_becomeProduct_X0_reach : GoodIn wsX0_becomeProduct wsX0_reach := goodIn_r _ [8, 1, 3, 9, 10, 11, 12, 13, 14, 15, 24, 25] (by decide +kernel) (by decide +kernel)
set_option maxRecDepth 20000 in
theorem gX0_becomeProduct_X0_reach : GoodIn wsX0_becomeProduct (wsV RX0 19 RX0 yX0_reach wsX0_reach) := goodIn_app (goodIn_of _ (by decide +kernel)) ggX0_becomeProduct_X0_reach
set_option maxRecDepth 20000 in
theorem ggX0_becomeProduct_X0_putOnTop : GoodIn wsX0_becomeProduct wsX0_putOnTop := goodIn_r _ [19, 3, 1, 20, 21, 22, 7, 23, 24, 25] (by decide +kernel) (by decide +kernel)
set_option maxRecDepth 20000 in
theorem gX0_becomeProduct_X0_putOnTop : GoodIn wsX0_becomeProduct (wsV RX0 28 RX0 yX0_putOnTop wsX0_putOnTop) := goodIn_app (goodIn_of _ (by decide +kernel)) ggX0_becomeProduct_X0_putOnTop
theorem dX0_becomeProduct_0 : decode cX0_becomeProduct 0 = .ok (.aload_n 0, 1) := by decide +kernel
theorem dX0_becomeProduct_1 : decode cX0_becomeProduct 1 = .ok (.aload_n 1, 1) := by decide +kernel
theorem dX0_becomeProduct_2 : decode cX0_becomeProduct 2 = .ok (.invokevirtual 19, 3) := by decide +kernel
theorem dX0_becomeProduct_5 : decode cX0_becomeProduct 5 = .ok (.istore_n 3, 1) := by decide +kernel
theorem dX0_becomeProduct_6 : decode cX0_becomeProduct 6 = .ok (.lconst 0, 1) := by decide +kernel
theorem dX0_becomeProduct_7 : decode cX0_becomeProduct 7 = .ok (.lstore 4, 2) := by decide +kernel
theorem dX0_becomeProduct_9 : decode cX0_becomeProduct 9 = .ok (.iconst 0, 1) := by decide +kernel
theorem dX0_becomeProduct_10 : decode cX0_becomeProduct 10 = .ok (.istore 6, 2) := by decide +kernel
theorem dX0_becomeProduct_12 : decode cX0_becomeProduct 12 = .ok (.iload 6, 2) := by decide +kernel
theorem dX0_becomeProduct_14 : decode cX0_becomeProduct 14 = .ok (.iload_n 3, 1) := by decide +kernel
theorem dX0_becomeProduct_15 : decode cX0_becomeProduct 15 = .ok (.if_icmp .ge 44, 3) := by decide +kernel
theorem dX0_becomeProduct_18 : decode cX0_becomeProduct 18 = .ok (.lload 4, 2) := by decide +kernel
theorem dX0_becomeProduct_20 : decode cX0_becomeProduct 20 = .ok (.aload_n 1, 1) := by decide +kernel
theorem dX0_becomeProduct_21 : decode cX0_becomeProduct 21 = .ok (.getfield 9, 3) := by decide +kernel
theorem dX0_becomeProduct_24 : decode cX0_becomeProduct 24 = .ok (.iload 6, 2) := by decide +kernel
theorem dX0_becomeProduct_26 : decode cX0_becomeProduct 26 = .ok (.laload, 1) := by decide +kernel
theorem dX0_becomeProduct_27 : decode cX0_becomeProduct 27 = .ok (.iload_n 2, 1) := by decide +kernel
theorem dX0_becomeProduct_28 : decode cX0_becomeProduct 28 = .ok (.i2l, 1) := by decide +kernel
theorem dX0_becomeProduct_29 : decode cX0_becomeProduct 29 = .ok (.lmul, 1) := by decide +kernel
theorem dX0_becomeProduct_30 : decode cX0_becomeProduct 30 = .ok (.ladd, 1) := by decide +kernel
theorem dX0_becomeProduct_31 : decode cX0_becomeProduct 31 = .ok (.lstore 4, 2) := by decide +kernel
theorem dX0_becomeProduct_33 : decode cX0_becomeProduct 33 = .ok (.aload_n 0, 1) := by decide +kernel
theorem dX0_becomeProduct_34 : decode cX0_becomeProduct 34 = .ok (.getfield 9, 3) := by decide +kernel
theorem dX0_becomeProduct_37 : decode cX0_becomeProduct 37 = .ok (.iload 6, 2) := by decide +kernel
theorem dX0_becomeProduct_39 : decode cX0_becomeProduct 39 = .ok (.lload 4, 2) := by decide +kernel
theorem dX0_becomeProduct_41 : decode cX0_becomeProduct 41 = .ok (.ldc2_w 26, 3) := by decide +kernel
theorem dX0_becomeProduct_44 : decode cX0_becomeProduct 44 = .ok (.land, 1) := by decide +kernel
theorem dX0_becomeProduct_45 : decode cX0_becomeProduct 45 = .ok (.lastore, 1) := by decide +kernel
theorem dX0_becomeProduct_46 : decode cX0_becomeProduct 46 = .ok (.lload 4, 2) := by decide +kernel
theorem dX0_becomeProduct_48 : decode cX0_becomeProduct 48 = .ok (.bipush 32, 2) := by decide +kernel
theorem dX0_becomeProduct_50 : decode cX0_becomeProduct 50 = .ok (.lushr, 1) := by decide +kernel
theorem dX0_becomeProduct_51 : decode cX0_becomeProduct 51 = .ok (.lstore 4, 2) := by decide +kernel
theorem dX0_becomeProduct_53 : decode cX0_becomeProduct 53 = .ok (.iinc 6 1, 3) := by decide +kernel
theorem dX0_becomeProduct_56 : decode cX0_becomeProduct 56 = .ok (.goto (-44), 3) := by decide +kernel
theorem dX0_becomeProduct_59 : decode cX0_becomeProduct 59 = .ok (.aload_n 0, 1) := by decide +kernel
theorem dX0_becomeProduct_60 : decode cX0_becomeProduct 60 = .ok (.iload_n 3, 1) := by decide +kernel
theorem dX0_becomeProduct_61 : decode cX0_becomeProduct 61 = .ok (.putfield 15, 3) := by decide +kernel
theorem dX0_becomeProduct_64 : decode cX0_becomeProduct 64 = .ok (.aload_n 0, 1) := by decide +kernel
theorem dX0_becomeProduct_65 : decode cX0_becomeProduct 65 = .ok (.lload 4, 2) := by decide +kernel
theorem dX0_becomeProduct_67 : decode cX0_becomeProduct 67 = .ok (.invokevirtual 28, 3) := by decide +kernel
theorem dX0_becomeProduct_70 : decode cX0_becomeProduct 70 = .ok (.return_, 1) := by decide +kernel
set_option maxRecDepth 20000 in
theorem ggX0_becomeQuotient_X0_reach : GoodIn wsX0_becomeQuotient wsX0_reach := goodIn_r _ [7, 2, 1, 8, 9, 10, 11, 12, 13, 14, 19, 20] (by decide +kernel) (by decide +kernel)
set_option maxRecDepth 20000 in
theorem gX0_becomeQuotient_X0_reach : GoodIn wsX0_becomeQuotient (wsV RX0 19 RX0 yX0_reach wsX0_reach) := goodIn_app (goodIn_of _ (by decide +kernel)) ggX0_becomeQuotient_X0_reach
set_option maxRecDepth 20000 in
theorem ggX0_becomeQuotient_X0_dropZeros : GoodIn wsX0_becomeQuotient wsX0_dropZeros := goodIn_r _ [18, 1, 2, 19, 20] (by decide +kernel) (by decide +kernel)
set_option maxRecDepth 20000 in
theorem gX0_becomeQuotient_X0_dropZeros : GoodIn wsX0_becomeQuotient (wsV RX0 23 RX0 yX0_dropZeros wsX0_dropZeros) := goodIn_app (goodIn_of _ (by decide +kernel)) ggX0_becomeQuotient_X0_dropZeros
theorem dX0_becomeQuotient_0 : decode cX0_becomeQuotient 0 = .ok (.iload_n 2, 1) := by decide +kernel
theorem dX0_becomeQuotient_1 : decode cX0_becomeQuotient 1 = .ok (.iconst 1, 1) := by decide +kernel
theorem dX0_becomeQuotient_2 : decode cX0_becomeQuotient 2 = .ok (.if_icmp .ge 4, 3) := by decide +kernel
theorem dX0_becomeQuotient_5 : decode cX0_becomeQuotient 5 = .ok (.return_, 1) := by decide +kernel
theorem dX0_becomeQuotient_6 : decode cX0_becomeQuotient 6 = .ok (.aload_n 0, 1) := by decide +kernel
theorem dX0_becomeQuotient_7 : decode cX0_becomeQuotient 7 = .ok (.aload_n 0, 1) := by decide +kernel
theorem dX0_becomeQuotient_8 : decode cX0_becomeQuotient 8 = .ok (.aload_n 1, 1) := by decide +kernel
theorem dX0_becomeQuotient_9 : decode cX0_becomeQuotient 9 = .ok (.invokevirtual 19, 3) := by decide +kernel
theorem dX0_becomeQuotient_12 : decode cX0_becomeQuotient 12 = .ok (.putfield 15, 3) := by decide +kernel
theorem dX0_becomeQuotient_15 : decode cX0_becomeQuotient 15 = .ok (.lconst 0, 1) := by decide +kernel
theorem dX0_becomeQuotient_16 : decode cX0_becomeQuotient 16 = .ok (.lstore_n 3, 1) := by decide +kernel
theorem dX0_becomeQuotient_17 : decode cX0_becomeQuotient 17 = .ok (.aload_n 0, 1) := by decide +kernel
theorem dX0_becomeQuotient_18 : decode cX0_becomeQuotient 18 = .ok (.getfield 15, 3) := by decide +kernel
theorem dX0_becomeQuotient_21 : decode cX0_becomeQuotient 21 = .ok (.iconst 1, 1) := by decide +kernel
theorem dX0_becomeQuotient_22 : decode cX0_becomeQuotient 22 = .ok (.isub, 1) := by decide +kernel
theorem dX0_becomeQuotient_23 : decode cX0_becomeQuotient 23 = .ok (.istore 5, 2) := by decide +kernel
theorem dX0_becomeQuotient_25 : decode cX0_becomeQuotient 25 = .ok (.iload 5, 2) := by decide +kernel
theorem dX0_becomeQuotient_27 : decode cX0_becomeQuotient 27 = .ok (.ifCond .lt 38, 3) := by decide +kernel
theorem dX0_becomeQuotient_30 : decode cX0_becomeQuotient 30 = .ok (.lload_n 3, 1) := by decide +kernel
theorem dX0_becomeQuotient_31 : decode cX0_becomeQuotient 31 = .ok (.bipush 32, 2) := by decide +kernel
theorem dX0_becomeQuotient_33 : decode cX0_becomeQuotient 33 = .ok (.lshl, 1) := by decide +kernel
theorem dX0_becomeQuotient_34 : decode cX0_becomeQuotient 34 = .ok (.aload_n 1, 1) := by decide +kernel
theorem dX0_becomeQuotient_35 : decode cX0_becomeQuotient 35 = .ok (.getfield 9, 3) := by decide +kernel
theorem dX0_becomeQuotient_38 : decode cX0_becomeQuotient 38 = .ok (.iload 5, 2) := by decide +kernel
theorem dX0_becomeQuotient_40 : decode cX0_becomeQuotient 40 = .ok (.laload, 1) := by decide +kernel
theorem dX0_becomeQuotient_41 : decode cX0_becomeQuotient 41 = .ok (.ladd, 1) := by decide +kernel
theorem dX0_becomeQuotient_42 : decode cX0_becomeQuotient 42 = .ok (.lstore_n 3, 1) := by decide +kernel
theorem dX0_becomeQuotient_43 : decode cX0_becomeQuotient 43 = .ok (.aload_n 0, 1) := by decide +kernel
theorem dX0_becomeQuotient_44 : decode cX0_becomeQuotient 44 = .ok (.getfield 9, 3) := by decide +kernel
theorem dX0_becomeQuotient_47 : decode cX0_becomeQuotient 47 = .ok (.iload 5, 2) := by decide +kernel
theorem dX0_becomeQuotient_49 : decode cX0_becomeQuotient 49 = .ok (.lload_n 3, 1) := by decide +kernel
theorem dX0_becomeQuotient_50 : decode cX0_becomeQuotient 50 = .ok (.iload_n 2, 1) := by decide +kernel
theorem dX0_becomeQuotient_51 : decode cX0_becomeQuotient 51 = .ok (.i2l, 1) := by decide +kernel
theorem dX0_becomeQuotient_52 : decode cX0_becomeQuotient 52 = .ok (.ldiv, 1) := by decide +kernel
theorem dX0_becomeQuotient_53 : decode cX0_becomeQuotient 53 = .ok (.lastore, 1) := by decide +kernel
theorem dX0_becomeQuotient_54 : decode cX0_becomeQuotient 54 = .ok (.lload_n 3, 1) := by decide +kernel
theorem dX0_becomeQuotient_55 : decode cX0_becomeQuotient 55 = .ok (.iload_n 2, 1) := by decide +kernel
theorem dX0_becomeQuotient_56 : decode cX0_becomeQuotient 56 = .ok (.i2l, 1) := by decide +kernel
theorem dX0_becomeQuotient_57 : decode cX0_becomeQuotient 57 = .ok (.lrem, 1) := by decide +kernel
theorem dX0_becomeQuotient_58 : decode cX0_becomeQuotient 58 = .ok (.lstore_n 3, 1) := by decide +kernel
theorem dX0_becomeQuotient_59 : decode cX0_becomeQuotient 59 = .ok (.iinc 5 (-1), 3) := by decide +kernel
theorem dX0_becomeQuotient_62 : decode cX0_becomeQuotient 62 = .ok (.goto (-37), 3) := by decide +kernel
theorem dX0_becomeQuotient_65 : decode cX0_becomeQuotient 65 = .ok (.aload_n 0, 1) := by decide +kernel
theorem dX0_becomeQuotient_66 : decode cX0_becomeQuotient 66 = .ok (.invokevirtual 23, 3) := by decide +kernel
theorem dX0_becomeQuotient_69 : decode cX0_becomeQuotient 69 = .ok (.return_, 1) := by decide +kernel
set_option maxRecDepth 20000 in
theorem ggX0_add_X0_reach : GoodIn wsX0_add wsX0_reach := goodIn_r _ [8, 1, 3, 9, 10, 11, 12, 13, 14, 15, 24, 25] (by decide +kernel) (by decide +kernel)
set_option maxRecDepth 20000 in
theorem gX0_add_X0_reach : GoodIn wsX0_add (wsV RX0 19 RX0 yX0_reach wsX0_reach) := goodIn_app (goodIn_of _ (by decide +kernel)) ggX0_add_X0_reach
set_option maxRecDepth 20000 in
theorem ggX0_add_X0_putOnTop : GoodIn wsX0_add wsX0_putOnTop := goodIn_r _ [19, 3, 1, 20, 21, 22, 7, 23, 24, 25] (by decide +kernel) (by decide +kernel)
set_option maxRecDepth 20000 in
theorem gX0_add_X0_putOnTop : GoodIn wsX0_add (wsV RX0 28 RX0 yX0_putOnTop wsX0_putOnTop) := goodIn_app (goodIn_of _ (by decide +kernel)) ggX0_add_X0_putOnTop
theorem dX0_add_0 : decode cX0_add 0 = .ok (.aload_n 0, 1) := by decide +kernel
theorem dX0_add_1 : decode cX0_add 1 = .ok (.aload_n 1, 1) := by decide +kernel
theorem dX0_add_2 : decode cX0_add 2 = .ok (.invokevirtual 19, 3) := by decide +kernel
theorem dX0_add_5 : decode cX0_add 5 = .ok (.istore_n 2, 1) := by decide +kernel
theorem dX0_add_6 : decode cX0_add 6 = .ok (.lconst 0, 1) := by decide +kernel
theorem dX0_add_7 : decode cX0_add 7 = .ok (.lstore_n 3, 1) := by decide +kernel
theorem dX0_add_8 : decode cX0_add 8 = .ok (.iconst 0, 1) := by decide +kernel
theorem dX0_add_9 : decode cX0_add 9 = .ok (.istore 5, 2) := by decide +kernel
theorem dX0_add_11 : decode cX0_add 11 = .ok (.iload 5, 2) := by decide +kernel
theorem dX0_add_13 : decode cX0_add 13 = .ok (.iload_n 2, 1) := by decide +kernel
theorem dX0_add_14 : decode cX0_add 14 = .ok (.if_icmp .ge 44, 3) := by decide +kernel
theorem dX0_add_17 : decode cX0_add 17 = .ok (.lload_n 3, 1) := by decide +kernel
theorem dX0_add_18 : decode cX0_add 18 = .ok (.aload_n 0, 1) := by decide +kernel
theorem dX0_add_19 : decode cX0_add 19 = .ok (.getfield 9, 3) := by decide +kernel
theorem dX0_add_22 : decode cX0_add 22 = .ok (.iload 5, 2) := by decide +kernel
theorem dX0_add_24 : decode cX0_add 24 = .ok (.laload, 1) := by decide +kernel
theorem dX0_add_25 : decode cX0_add 25 = .ok (.aload_n 1, 1) := by decide +kernel
theorem dX0_add_26 : decode cX0_add 26 = .ok (.getfield 9, 3) := by decide +kernel
theorem dX0_add_29 : decode cX0_add 29 = .ok (.iload 5, 2) := by decide +kernel
theorem dX0_add_31 : decode cX0_add 31 = .ok (.laload, 1) := by decide +kernel
theorem dX0_add_32 : decode cX0_add 32 = .ok (.ladd, 1) := by decide +kernel
theorem dX0_add_33 : decode cX0_add 33 = .ok (.ladd, 1) := by decide +kernel
theorem dX0_add_34 : decode cX0_add 34 = .ok (.lstore_n 3, 1) := by decide +kernel
theorem dX0_add_35 : decode cX0_add 35 = .ok (.aload_n 0, 1) := by decide +kernel
theorem dX0_add_36 : decode cX0_add 36 = .ok (.getfield 9, 3) := by decide +kernel
theorem dX0_add_39 : decode cX0_add 39 = .ok (.iload 5, 2) := by decide +kernel
theorem dX0_add_41 : decode cX0_add 41 = .ok (.lload_n 3, 1) := by decide +kernel
theorem dX0_add_42 : decode cX0_add 42 = .ok (.ldc2_w 26, 3) := by decide +kernel
theorem dX0_add_45 : decode cX0_add 45 = .ok (.land, 1) := by decide +kernel
theorem dX0_add_46 : decode cX0_add 46 = .ok (.lastore, 1) := by decide +kernel
theorem dX0_add_47 : decode cX0_add 47 = .ok (.lload_n 3, 1) := by decide +kernel
theorem dX0_add_48 : decode cX0_add 48 = .ok (.bipush 32, 2) := by decide +kernel
theorem dX0_add_50 : decode cX0_add 50 = .ok (.lushr, 1) := by decide +kernel
theorem dX0_add_51 : decode cX0_add 51 = .ok (.lstore_n 3, 1) := by decide +kernel
theorem dX0_add_52 : decode cX0_add 52 = .ok (.iinc 5 1, 3) := by decide +kernel
theorem dX0_add_55 : decode cX0_add 55 = .ok (.goto (-44), 3) := by decide +kernel
theorem dX0_add_58 : decode cX0_add 58 = .ok (.aload_n 0, 1) := by decide +kernel
theorem dX0_add_59 : decode cX0_add 59 = .ok (.iload_n 2, 1) := by decide +kernel
theorem dX0_add_60 : decode cX0_add 60 = .ok (.putfield 15, 3) := by decide +kernel
theorem dX0_add_63 : decode cX0_add 63 = .ok (.aload_n 0, 1) := by decide +kernel
theorem dX0_add_64 : decode cX0_add 64 = .ok (.lload_n 3, 1) := by decide +kernel
theorem dX0_add_65 : decode cX0_add 65 = .ok (.invokevirtual 28, 3) := by decide +kernel
theorem dX0_add_68 : decode cX0_add 68 = .ok (.return_, 1) := by decide +kernel
set_option maxRecDepth 20000 in
theorem ggX0_takeAway_X0_reach : GoodIn wsX0_takeAway wsX0_reach := goodIn_r _ [7, 1, 8, 9, 10, 11, 12, 13, 14, 15, 20, 21] (by decide +kernel) (by decide +kernel)
set_option maxRecDepth 20000 in
theorem gX0_takeAway_X0_reach : GoodIn wsX0_takeAway (wsV RX0 19 RX0 yX0_reach wsX0_reach) := goodIn_app (goodIn_of _ (by decide +kernel)) ggX0_takeAway_X0_reach
set_option maxRecDepth 20000 in
theorem ggX0_takeAway_X0_dropZeros : GoodIn wsX0_takeAway wsX0_dropZeros := goodIn_r _ [19, 8, 1, 20, 21] (by decide +kernel) (by decide +kernel)
set_option maxRecDepth 20000 in
theorem gX0_takeAway_X0_dropZeros : GoodIn wsX0_takeAway (wsV RX0 23 RX0 yX0_dropZeros wsX0_dropZeros) := goodIn_app (goodIn_of _ (by decide +kernel)) ggX0_takeAway_X0_dropZeros
theorem dX0_takeAway_0 : decode cX0_takeAway 0 = .ok (.aload_n 0, 1) := by decide +kernel
theorem dX0_takeAway_1 : decode cX0_takeAway 1 = .ok (.aload_n 1, 1) := by decide +kernel
theorem dX0_takeAway_2 : decode cX0_takeAway 2 = .ok (.invokevirtual 19, 3) := by decide +kernel
theorem dX0_takeAway_5 : decode cX0_takeAway 5 = .ok (.istore_n 2, 1) := by decide +kernel
theorem dX0_takeAway_6 : decode cX0_takeAway 6 = .ok (.lconst 0, 1) := by decide +kernel
theorem dX0_takeAway_7 : decode cX0_takeAway 7 = .ok (.lstore_n 3, 1) := by decide +kernel
theorem dX0_takeAway_8 : decode cX0_takeAway 8 = .ok (.iconst 0, 1) := by decide +kernel
theorem dX0_takeAway_9 : decode cX0_takeAway 9 = .ok (.istore 5, 2) := by decide +kernel
theorem dX0_takeAway_11 : decode cX0_takeAway 11 = .ok (.iload 5, 2) := by decide +kernel
theorem dX0_takeAway_13 : decode cX0_takeAway 13 = .ok (.iload_n 2, 1) := by decide +kernel
theorem dX0_takeAway_14 : decode cX0_takeAway 14 = .ok (.if_icmp .ge 44, 3) := by decide +kernel
theorem dX0_takeAway_17 : decode cX0_takeAway 17 = .ok (.lload_n 3, 1) := by decide +kernel
theorem dX0_takeAway_18 : decode cX0_takeAway 18 = .ok (.aload_n 0, 1) := by decide +kernel
theorem dX0_takeAway_19 : decode cX0_takeAway 19 = .ok (.getfield 9, 3) := by decide +kernel
theorem dX0_takeAway_22 : decode cX0_takeAway 22 = .ok (.iload 5, 2) := by decide +kernel
theorem dX0_takeAway_24 : decode cX0_takeAway 24 = .ok (.laload, 1) := by decide +kernel
theorem dX0_takeAway_25 : decode cX0_takeAway 25 = .ok (.aload_n 1, 1) := by decide +kernel
theorem dX0_takeAway_26 : decode cX0_takeAway 26 = .ok (.getfield 9, 3) := by decide +kernel
theorem dX0_takeAway_29 : decode cX0_takeAway 29 = .ok (.iload 5, 2) := by decide +kernel
theorem dX0_takeAway_31 : decode cX0_takeAway 31 = .ok (.laload, 1) := by decide +kernel
theorem dX0_takeAway_32 : decode cX0_takeAway 32 = .ok (.lsub, 1) := by decide +kernel
theorem dX0_takeAway_33 : decode cX0_takeAway 33 = .ok (.ladd, 1) := by decide +kernel
theorem dX0_takeAway_34 : decode cX0_takeAway 34 = .ok (.lstore_n 3, 1) := by decide +kernel
theorem dX0_takeAway_35 : decode cX0_takeAway 35 = .ok (.aload_n 0, 1) := by decide +kernel
theorem dX0_takeAway_36 : decode cX0_takeAway 36 = .ok (.getfield 9, 3) := by decide +kernel
theorem dX0_takeAway_39 : decode cX0_takeAway 39 = .ok (.iload 5, 2) := by decide +kernel
theorem dX0_takeAway_41 : decode cX0_takeAway 41 = .ok (.lload_n 3, 1) := by decide +kernel
theorem dX0_takeAway_42 : decode cX0_takeAway 42 = .ok (.ldc2_w 26, 3) := by decide +kernel
theorem dX0_takeAway_45 : decode cX0_takeAway 45 = .ok (.land, 1) := by decide +kernel
theorem dX0_takeAway_46 : decode cX0_takeAway 46 = .ok (.lastore, 1) := by decide +kernel
theorem dX0_takeAway_47 : decode cX0_takeAway 47 = .ok (.lload_n 3, 1) := by decide +kernel
theorem dX0_takeAway_48 : decode cX0_takeAway 48 = .ok (.bipush 32, 2) := by decide +kernel
theorem dX0_takeAway_50 : decode cX0_takeAway 50 = .ok (.lshr, 1) := by decide +kernel
theorem dX0_takeAway_51 : decode cX0_takeAway 51 = .ok (.lstore_n 3, 1) := by decide +kernel
theorem dX0_takeAway_52 : decode cX0_takeAway 52 = .ok (.iinc 5 1, 3) := by decide +kernel
theorem dX0_takeAway_55 : decode cX0_takeAway 55 = .ok (.goto (-44), 3) := by decide +kernel
theorem dX0_takeAway_58 : decode cX0_takeAway 58 = .ok (.aload_n 0, 1) := by decide +kernel
theorem dX0_takeAway_59 : decode cX0_takeAway 59 = .ok (.invokevirtual 23, 3) := by decide +kernel
theorem dX0_takeAway_62 : decode cX0_takeAway 62 = .ok (.return_, 1) := by decide +kernel
set_option maxRecDepth 20000 in
theorem ggX0_isLess_X0_reach : GoodIn wsX0_isLess wsX0_reach := goodIn_r _ [6, 1, 7, 8, 9, 10, 11, 12, 13, 14, 15, 16] (by decide +kernel) (by decide +kernel)
set_option maxRecDepth 20000 in
theorem gX0_isLess_X0_reach : GoodIn wsX0_isLess (wsV RX0 19 RX0 yX0_reach wsX0_reach) := goodIn_app (goodIn_of _ (by decide +kernel)) ggX0_isLess_X0_reach
theorem dX0_isLess_0 : decode cX0_isLess 0 = .ok (.aload_n 0, 1) := by decide +kernel
theorem dX0_isLess_1 : decode cX0_isLess 1 = .ok (.aload_n 1, 1) := by decide +kernel
theorem dX0_isLess_2 : decode cX0_isLess 2 = .ok (.invokevirtual 19, 3) := by decide +kernel
theorem dX0_isLess_5 : decode cX0_isLess 5 = .ok (.iconst 1, 1) := by decide +kernel
theorem dX0_isLess_6 : decode cX0_isLess 6 = .ok (.isub, 1) := by decide +kernel
theorem dX0_isLess_7 : decode cX0_isLess 7 = .ok (.istore_n 2, 1) := by decide +kernel
theorem dX0_isLess_8 : decode cX0_isLess 8 = .ok (.iload_n 2, 1) := by decide +kernel
theorem dX0_isLess_9 : decode cX0_isLess 9 = .ok (.ifCond .lt 47, 3) := by decide +kernel
theorem dX0_isLess_12 : decode cX0_isLess 12 = .ok (.aload_n 0, 1) := by decide +kernel
theorem dX0_isLess_13 : decode cX0_isLess 13 = .ok (.getfield 9, 3) := by decide +kernel
theorem dX0_isLess_16 : decode cX0_isLess 16 = .ok (.iload_n 2, 1) := by decide +kernel
theorem dX0_isLess_17 : decode cX0_isLess 17 = .ok (.laload, 1) := by decide +kernel
theorem dX0_isLess_18 : decode cX0_isLess 18 = .ok (.aload_n 1, 1) := by decide +kernel
theorem dX0_isLess_19 : decode cX0_isLess 19 = .ok (.getfield 9, 3) := by decide +kernel
theorem dX0_isLess_22 : decode cX0_isLess 22 = .ok (.iload_n 2, 1) := by decide +kernel
theorem dX0_isLess_23 : decode cX0_isLess 23 = .ok (.laload, 1) := by decide +kernel
theorem dX0_isLess_24 : decode cX0_isLess 24 = .ok (.lcmp, 1) := by decide +kernel
theorem dX0_isLess_25 : decode cX0_isLess 25 = .ok (.ifCond .eq 25, 3) := by decide +kernel
theorem dX0_isLess_28 : decode cX0_isLess 28 = .ok (.aload_n 0, 1) := by decide +kernel
theorem dX0_isLess_29 : decode cX0_isLess 29 = .ok (.getfield 9, 3) := by decide +kernel
theorem dX0_isLess_32 : decode cX0_isLess 32 = .ok (.iload_n 2, 1) := by decide +kernel
theorem dX0_isLess_33 : decode cX0_isLess 33 = .ok (.laload, 1) := by decide +kernel
theorem dX0_isLess_34 : decode cX0_isLess 34 = .ok (.aload_n 1, 1) := by decide +kernel
theorem dX0_isLess_35 : decode cX0_isLess 35 = .ok (.getfield 9, 3) := by decide +kernel
theorem dX0_isLess_38 : decode cX0_isLess 38 = .ok (.iload_n 2, 1) := by decide +kernel
theorem dX0_isLess_39 : decode cX0_isLess 39 = .ok (.laload, 1) := by decide +kernel
theorem dX0_isLess_40 : decode cX0_isLess 40 = .ok (.lcmp, 1) := by decide +kernel
theorem dX0_isLess_41 : decode cX0_isLess 41 = .ok (.ifCond .ge 7, 3) := by decide +kernel
theorem dX0_isLess_44 : decode cX0_isLess 44 = .ok (.iconst 1, 1) := by decide +kernel
theorem dX0_isLess_45 : decode cX0_isLess 45 = .ok (.goto 4, 3) := by decide +kernel
theorem dX0_isLess_48 : decode cX0_isLess 48 = .ok (.iconst 0, 1) := by decide +kernel
theorem dX0_isLess_49 : decode cX0_isLess 49 = .ok (.ireturn, 1) := by decide +kernel
theorem dX0_isLess_50 : decode cX0_isLess 50 = .ok (.iinc 2 (-1), 3) := by decide +kernel
theorem dX0_isLess_53 : decode cX0_isLess 53 = .ok (.goto (-45), 3) := by decide +kernel
theorem dX0_isLess_56 : decode cX0_isLess 56 = .ok (.iconst 0, 1) := by decide +kernel
theorem dX0_isLess_57 : decode cX0_isLess 57 = .ok (.ireturn, 1) := by decide +kernel
theorem dX0_upTo_0 : decode cX0_upTo 0 = .ok (.aload_n 0, 1) := by decide +kernel
theorem dX0_upTo_1 : decode cX0_upTo 1 = .ok (.getfield 15, 3) := by decide +kernel
theorem dX0_upTo_4 : decode cX0_upTo 4 = .ok (.iconst 1, 1) := by decide +kernel
theorem dX0_upTo_5 : decode cX0_upTo 5 = .ok (.if_icmp .gt 15, 3) := by decide +kernel
theorem dX0_upTo_8 : decode cX0_upTo 8 = .ok (.aload_n 0, 1) := by decide +kernel
theorem dX0_upTo_9 : decode cX0_upTo 9 = .ok (.getfield 9, 3) := by decide +kernel
theorem dX0_upTo_12 : decode cX0_upTo 12 = .ok (.iconst 0, 1) := by decide +kernel
theorem dX0_upTo_13 : decode cX0_upTo 13 = .ok (.laload, 1) := by decide +kernel
theorem dX0_upTo_14 : decode cX0_upTo 14 = .ok (.iload_n 1, 1) := by decide +kernel
theorem dX0_upTo_15 : decode cX0_upTo 15 = .ok (.i2l, 1) := by decide +kernel
theorem dX0_upTo_16 : decode cX0_upTo 16 = .ok (.lcmp, 1) := by decide +kernel
theorem dX0_upTo_17 : decode cX0_upTo 17 = .ok (.ifCond .le 7, 3) := by decide +kernel
theorem dX0_upTo_20 : decode cX0_upTo 20 = .ok (.iload_n 1, 1) := by decide +kernel
theorem dX0_upTo_21 : decode cX0_upTo 21 = .ok (.goto 10, 3) := by decide +kernel
theorem dX0_upTo_24 : decode cX0_upTo 24 = .ok (.aload_n 0, 1) := by decide +kernel
theorem dX0_upTo_25 : decode cX0_upTo 25 = .ok (.getfield 9, 3) := by decide +kernel
theorem dX0_upTo_28 : decode cX0_upTo 28 = .ok (.iconst 0, 1) := by decide +kernel
theorem dX0_upTo_29 : decode cX0_upTo 29 = .ok (.laload, 1) := by decide +kernel
theorem dX0_upTo_30 : decode cX0_upTo 30 = .ok (.l2i, 1) := by decide +kernel
theorem dX0_upTo_31 : decode cX0_upTo 31 = .ok (.ireturn, 1) := by decide +kernel
theorem dX0_lowBits_0 : decode cX0_lowBits 0 = .ok (.aload_n 0, 1) := by decide +kernel
theorem dX0_lowBits_1 : decode cX0_lowBits 1 = .ok (.getfield 9, 3) := by decide +kernel
theorem dX0_lowBits_4 : decode cX0_lowBits 4 = .ok (.iconst 0, 1) := by decide +kernel
theorem dX0_lowBits_5 : decode cX0_lowBits 5 = .ok (.laload, 1) := by decide +kernel
theorem dX0_lowBits_6 : decode cX0_lowBits 6 = .ok (.aload_n 0, 1) := by decide +kernel
theorem dX0_lowBits_7 : decode cX0_lowBits 7 = .ok (.getfield 9, 3) := by decide +kernel
theorem dX0_lowBits_10 : decode cX0_lowBits 10 = .ok (.iconst 1, 1) := by decide +kernel
theorem dX0_lowBits_11 : decode cX0_lowBits 11 = .ok (.laload, 1) := by decide +kernel
theorem dX0_lowBits_12 : decode cX0_lowBits 12 = .ok (.bipush 32, 2) := by decide +kernel
theorem dX0_lowBits_14 : decode cX0_lowBits 14 = .ok (.lshl, 1) := by decide +kernel
theorem dX0_lowBits_15 : decode cX0_lowBits 15 = .ok (.ladd, 1) := by decide +kernel
theorem dX0_lowBits_16 : decode cX0_lowBits 16 = .ok (.lreturn, 1) := by decide +kernel
set_option maxRecDepth 20000 in
theorem ggX0_toDouble_X0_reach : GoodIn wsX0_toDouble wsX0_reach := goodIn_r _ [9, 1, 10, 11, 12, 13, 14, 15, 16, 17, 18, 19] (by decide +kernel) (by decide +kernel)
set_option maxRecDepth 20000 in
theorem gX0_toDouble_X0_reach : GoodIn wsX0_toDouble (wsV RX0 19 RX0 yX0_reach wsX0_reach) := goodIn_app (goodIn_of _ (by decide +kernel)) ggX0_toDouble_X0_reach
theorem dX0_toDouble_0 : decode cX0_toDouble 0 = .ok (.lconst 0, 1) := by decide +kernel
theorem dX0_toDouble_1 : decode cX0_toDouble 1 = .ok (.lstore_n 1, 1) := by decide +kernel
theorem dX0_toDouble_2 : decode cX0_toDouble 2 = .ok (.dconst 1, 1) := by decide +kernel
theorem dX0_toDouble_3 : decode cX0_toDouble 3 = .ok (.dstore_n 3, 1) := by decide +kernel
theorem dX0_toDouble_4 : decode cX0_toDouble 4 = .ok (.aload_n 0, 1) := by decide +kernel
theorem dX0_toDouble_5 : decode cX0_toDouble 5 = .ok (.aload_n 0, 1) := by decide +kernel
theorem dX0_toDouble_6 : decode cX0_toDouble 6 = .ok (.invokevirtual 19, 3) := by decide +kernel
theorem dX0_toDouble_9 : decode cX0_toDouble 9 = .ok (.bipush 32, 2) := by decide +kernel
theorem dX0_toDouble_11 : decode cX0_toDouble 11 = .ok (.imul, 1) := by decide +kernel
theorem dX0_toDouble_12 : decode cX0_toDouble 12 = .ok (.iconst 1, 1) := by decide +kernel
theorem dX0_toDouble_13 : decode cX0_toDouble 13 = .ok (.isub, 1) := by decide +kernel
theorem dX0_toDouble_14 : decode cX0_toDouble 14 = .ok (.istore 5, 2) := by decide +kernel
theorem dX0_toDouble_16 : decode cX0_toDouble 16 = .ok (.iload 5, 2) := by decide +kernel
theorem dX0_toDouble_18 : decode cX0_toDouble 18 = .ok (.ifCond .lt 60, 3) := by decide +kernel
theorem dX0_toDouble_21 : decode cX0_toDouble 21 = .ok (.aload_n 0, 1) := by decide +kernel
theorem dX0_toDouble_22 : decode cX0_toDouble 22 = .ok (.getfield 9, 3) := by decide +kernel
theorem dX0_toDouble_25 : decode cX0_toDouble 25 = .ok (.iload 5, 2) := by decide +kernel
theorem dX0_toDouble_27 : decode cX0_toDouble 27 = .ok (.bipush 32, 2) := by decide +kernel
theorem dX0_toDouble_29 : decode cX0_toDouble 29 = .ok (.idiv, 1) := by decide +kernel
theorem dX0_toDouble_30 : decode cX0_toDouble 30 = .ok (.laload, 1) := by decide +kernel
theorem dX0_toDouble_31 : decode cX0_toDouble 31 = .ok (.iload 5, 2) := by decide +kernel
theorem dX0_toDouble_33 : decode cX0_toDouble 33 = .ok (.bipush 32, 2) := by decide +kernel
theorem dX0_toDouble_35 : decode cX0_toDouble 35 = .ok (.irem, 1) := by decide +kernel
theorem dX0_toDouble_36 : decode cX0_toDouble 36 = .ok (.lshr, 1) := by decide +kernel
theorem dX0_toDouble_37 : decode cX0_toDouble 37 = .ok (.lconst 1, 1) := by decide +kernel
theorem dX0_toDouble_38 : decode cX0_toDouble 38 = .ok (.land, 1) := by decide +kernel
theorem dX0_toDouble_39 : decode cX0_toDouble 39 = .ok (.lstore 6, 2) := by decide +kernel
theorem dX0_toDouble_41 : decode cX0_toDouble 41 = .ok (.lload_n 1, 1) := by decide +kernel
theorem dX0_toDouble_42 : decode cX0_toDouble 42 = .ok (.ldc2_w 32, 3) := by decide +kernel
theorem dX0_toDouble_45 : decode cX0_toDouble 45 = .ok (.lcmp, 1) := by decide +kernel
theorem dX0_toDouble_46 : decode cX0_toDouble 46 = .ok (.ifCond .ge 15, 3) := by decide +kernel
theorem dX0_toDouble_49 : decode cX0_toDouble 49 = .ok (.ldc2_w 34, 3) := by decide +kernel
theorem dX0_toDouble_52 : decode cX0_toDouble 52 = .ok (.lload_n 1, 1) := by decide +kernel
theorem dX0_toDouble_53 : decode cX0_toDouble 53 = .ok (.lmul, 1) := by decide +kernel
theorem dX0_toDouble_54 : decode cX0_toDouble 54 = .ok (.lload 6, 2) := by decide +kernel
theorem dX0_toDouble_56 : decode cX0_toDouble 56 = .ok (.ladd, 1) := by decide +kernel
theorem dX0_toDouble_57 : decode cX0_toDouble 57 = .ok (.lstore_n 1, 1) := by decide +kernel
theorem dX0_toDouble_58 : decode cX0_toDouble 58 = .ok (.goto 14, 3) := by decide +kernel
theorem dX0_toDouble_61 : decode cX0_toDouble 61 = .ok (.lload_n 1, 1) := by decide +kernel
theorem dX0_toDouble_62 : decode cX0_toDouble 62 = .ok (.lload 6, 2) := by decide +kernel
theorem dX0_toDouble_64 : decode cX0_toDouble 64 = .ok (.lor, 1) := by decide +kernel
theorem dX0_toDouble_65 : decode cX0_toDouble 65 = .ok (.lstore_n 1, 1) := by decide +kernel
theorem dX0_toDouble_66 : decode cX0_toDouble 66 = .ok (.dload_n 3, 1) := by decide +kernel
theorem dX0_toDouble_67 : decode cX0_toDouble 67 = .ok (.ldc2_w 36, 3) := by decide +kernel
theorem dX0_toDouble_70 : decode cX0_toDouble 70 = .ok (.dmul, 1) := by decide +kernel
theorem dX0_toDouble_71 : decode cX0_toDouble 71 = .ok (.dstore_n 3, 1) := by decide +kernel
theorem dX0_toDouble_72 : decode cX0_toDouble 72 = .ok (.iinc 5 (-1), 3) := by decide +kernel
theorem dX0_toDouble_75 : decode cX0_toDouble 75 = .ok (.goto (-59), 3) := by decide +kernel
theorem dX0_toDouble_78 : decode cX0_toDouble 78 = .ok (.lload_n 1, 1) := by decide +kernel
theorem dX0_toDouble_79 : decode cX0_toDouble 79 = .ok (.l2d, 1) := by decide +kernel
theorem dX0_toDouble_80 : decode cX0_toDouble 80 = .ok (.dload_n 3, 1) := by decide +kernel
theorem dX0_toDouble_81 : decode cX0_toDouble 81 = .ok (.dmul, 1) := by decide +kernel
theorem dX0_toDouble_82 : decode cX0_toDouble 82 = .ok (.dreturn, 1) := by decide +kernel
theorem dX0_reach_0 : decode cX0_reach 0 = .ok (.aload_n 0, 1) := by decide +kernel
theorem dX0_reach_1 : decode cX0_reach 1 = .ok (.getfield 9, 3) := by decide +kernel
theorem dX0_reach_4 : decode cX0_reach 4 = .ok (.arraylength, 1) := by decide +kernel
theorem dX0_reach_5 : decode cX0_reach 5 = .ok (.aload_n 0, 1) := by decide +kernel
theorem dX0_reach_6 : decode cX0_reach 6 = .ok (.getfield 15, 3) := by decide +kernel
theorem dX0_reach_9 : decode cX0_reach 9 = .ok (.aload_n 1, 1) := by decide +kernel
theorem dX0_reach_10 : decode cX0_reach 10 = .ok (.getfield 15, 3) := by decide +kernel
theorem dX0_reach_13 : decode cX0_reach 13 = .ok (.invokestatic 38, 3) := by decide +kernel
theorem dX0_reach_16 : decode cX0_reach 16 = .ok (.invokestatic 44, 3) := by decide +kernel
theorem dX0_reach_19 : decode cX0_reach 19 = .ok (.ireturn, 1) := by decide +kernel
set_option maxRecDepth 20000 in
theorem ggX0_putOnTop_X0_dropZeros : GoodIn wsX0_putOnTop wsX0_dropZeros := goodIn_r _ [7, 1, 2, 8, 9] (by decide +kernel) (by decide +kernel)
set_option maxRecDepth 20000 in
theorem gX0_putOnTop_X0_dropZeros : GoodIn wsX0_putOnTop (wsV RX0 23 RX0 yX0_dropZeros wsX0_dropZeros) := goodIn_app (goodIn_of _ (by decide +kernel)) ggX0_putOnTop_X0_dropZeros
theorem dX0_putOnTop_0 : decode cX0_putOnTop 0 = .ok (.lload_n 1, 1) := by decide +kernel
theorem dX0_putOnTop_1 : decode cX0_putOnTop 1 = .ok (.lconst 0, 1) := by decide +kernel
theorem dX0_putOnTop_2 : decode cX0_putOnTop 2 = .ok (.lcmp, 1) := by decide +kernel
theorem dX0_putOnTop_3 : decode cX0_putOnTop 3 = .ok (.ifCond .le 35, 3) := by decide +kernel
theorem dX0_putOnTop_6 : decode cX0_putOnTop 6 = .ok (.aload_n 0, 1) := by decide +kernel
theorem dX0_putOnTop_7 : decode cX0_putOnTop 7 = .ok (.getfield 15, 3) := by decide +kernel
theorem dX0_putOnTop_10 : decode cX0_putOnTop 10 = .ok (.aload_n 0, 1) := by decide +kernel
theorem dX0_putOnTop_11 : decode cX0_putOnTop 11 = .ok (.getfield 9, 3) := by decide +kernel
theorem dX0_putOnTop_14 : decode cX0_putOnTop 14 = .ok (.arraylength, 1) := by decide +kernel
theorem dX0_putOnTop_15 : decode cX0_putOnTop 15 = .ok (.if_icmp .ge 23, 3) := by decide +kernel
theorem dX0_putOnTop_18 : decode cX0_putOnTop 18 = .ok (.aload_n 0, 1) := by decide +kernel
theorem dX0_putOnTop_19 : decode cX0_putOnTop 19 = .ok (.getfield 9, 3) := by decide +kernel
theorem dX0_putOnTop_22 : decode cX0_putOnTop 22 = .ok (.aload_n 0, 1) := by decide +kernel
theorem dX0_putOnTop_23 : decode cX0_putOnTop 23 = .ok (.getfield 15, 3) := by decide +kernel
theorem dX0_putOnTop_26 : decode cX0_putOnTop 26 = .ok (.lload_n 1, 1) := by decide +kernel
theorem dX0_putOnTop_27 : decode cX0_putOnTop 27 = .ok (.lastore, 1) := by decide +kernel
theorem dX0_putOnTop_28 : decode cX0_putOnTop 28 = .ok (.aload_n 0, 1) := by decide +kernel
theorem dX0_putOnTop_29 : decode cX0_putOnTop 29 = .ok (.dup, 1) := by decide +kernel
theorem dX0_putOnTop_30 : decode cX0_putOnTop 30 = .ok (.getfield 15, 3) := by decide +kernel
theorem dX0_putOnTop_33 : decode cX0_putOnTop 33 = .ok (.iconst 1, 1) := by decide +kernel
theorem dX0_putOnTop_34 : decode cX0_putOnTop 34 = .ok (.iadd, 1) := by decide +kernel
theorem dX0_putOnTop_35 : decode cX0_putOnTop 35 = .ok (.putfield 15, 3) := by decide +kernel
theorem dX0_putOnTop_38 : decode cX0_putOnTop 38 = .ok (.aload_n 0, 1) := by decide +kernel
theorem dX0_putOnTop_39 : decode cX0_putOnTop 39 = .ok (.invokevirtual 23, 3) := by decide +kernel
theorem dX0_putOnTop_42 : decode cX0_putOnTop 42 = .ok (.return_, 1) := by decide +kernel
theorem dX0_dropZeros_0 : decode cX0_dropZeros 0 = .ok (.aload_n 0, 1) := by decide +kernel
theorem dX0_dropZeros_1 : decode cX0_dropZeros 1 = .ok (.getfield 15, 3) := by decide +kernel
theorem dX0_dropZeros_4 : decode cX0_dropZeros 4 = .ok (.ifCond .le 32, 3) := by decide +kernel
theorem dX0_dropZeros_7 : decode cX0_dropZeros 7 = .ok (.aload_n 0, 1) := by decide +kernel
theorem dX0_dropZeros_8 : decode cX0_dropZeros 8 = .ok (.getfield 9, 3) := by decide +kernel
theorem dX0_dropZeros_11 : decode cX0_dropZeros 11 = .ok (.aload_n 0, 1) := by decide +kernel
theorem dX0_dropZeros_12 : decode cX0_dropZeros 12 = .ok (.getfield 15, 3) := by decide +kernel
theorem dX0_dropZeros_15 : decode cX0_dropZeros 15 = .ok (.iconst 1, 1) := by decide +kernel
theorem dX0_dropZeros_16 : decode cX0_dropZeros 16 = .ok (.isub, 1) := by decide +kernel
theorem dX0_dropZeros_17 : decode cX0_dropZeros 17 = .ok (.laload, 1) := by decide +kernel
theorem dX0_dropZeros_18 : decode cX0_dropZeros 18 = .ok (.lconst 0, 1) := by decide +kernel
theorem dX0_dropZeros_19 : decode cX0_dropZeros 19 = .ok (.lcmp, 1) := by decide +kernel
theorem dX0_dropZeros_20 : decode cX0_dropZeros 20 = .ok (.ifCond .ne 16, 3) := by decide +kernel
theorem dX0_dropZeros_23 : decode cX0_dropZeros 23 = .ok (.aload_n 0, 1) := by decide +kernel
theorem dX0_dropZeros_24 : decode cX0_dropZeros 24 = .ok (.dup, 1) := by decide +kernel
theorem dX0_dropZeros_25 : decode cX0_dropZeros 25 = .ok (.getfield 15, 3) := by decide +kernel
theorem dX0_dropZeros_28 : decode cX0_dropZeros 28 = .ok (.iconst 1, 1) := by decide +kernel
theorem dX0_dropZeros_29 : decode cX0_dropZeros 29 = .ok (.isub, 1) := by decide +kernel
theorem dX0_dropZeros_30 : decode cX0_dropZeros 30 = .ok (.putfield 15, 3) := by decide +kernel
theorem dX0_dropZeros_33 : decode cX0_dropZeros 33 = .ok (.goto (-33), 3) := by decide +kernel
theorem dX0_dropZeros_36 : decode cX0_dropZeros 36 = .ok (.return_, 1) := by decide +kernel
set_option maxRecDepth 20000 in
theorem ggX1_init_X0_init : GoodIn wsX1_init wsX0_init := goodIn_r _ [11, 12, 2, 3, 13, 14, 15, 39, 40] (by decide +kernel) (by decide +kernel)
set_option maxRecDepth 20000 in
theorem gX1_init_X0_init_n9 : GoodIn wsX1_init (wsX0_init) := ggX1_init_X0_init
set_option maxRecDepth 20000 in
theorem ggX1_init_X0_become : GoodIn wsX1_init wsX0_become := goodIn_r _ [19, 14, 15, 20, 21, 22, 6, 23, 24, 25, 26, 27, 28, 29, 30, 31, 32, 33, 34, 39, 40] (by decide +kernel) (by decide +kernel)
set_option maxRecDepth 20000 in
theorem gX1_init_X0_become : GoodIn wsX1_init (wsV RX1 23 RX0 yX0_become wsX0_become) := goodIn_app (goodIn_of _ (by decide +kernel)) ggX1_init_X0_become
set_option maxRecDepth 20000 in
theorem ggX1_init_X0_becomeQuotient : GoodIn wsX1_init wsX0_becomeQuotient := goodIn_r _ [38, 15, 14, 20, 21, 22, 6, 23, 24, 25, 26, 27, 28, 29, 30, 31, 32, 33, 34, 39, 40] (by decide +kernel) (by decide +kernel)
set_option maxRecDepth 20000 in
theorem gX1_init_X0_becomeQuotient : GoodIn wsX1_init (wsV RX1 27 RX0 yX0_becomeQuotient wsX0_becomeQuotient) := goodIn_app (goodIn_of _ (by decide +kernel)) ggX1_init_X0_becomeQuotient
theorem dX1_init_0 : decode cX1_init 0 = .ok (.aload_n 0, 1) := by decide +kernel
theorem dX1_init_1 : decode cX1_init 1 = .ok (.invokespecial 1, 3) := by decide +kernel
theorem dX1_init_4 : decode cX1_init 4 = .ok (.aload_n 0, 1) := by decide +kernel
theorem dX1_init_5 : decode cX1_init 5 = .ok (.new 7, 3) := by decide +kernel
theorem dX1_init_8 : decode cX1_init 8 = .ok (.dup, 1) := by decide +kernel
theorem dX1_init_9 : decode cX1_init 9 = .ok (.invokespecial 9, 3) := by decide +kernel
theorem dX1_init_12 : decode cX1_init 12 = .ok (.putfield 10, 3) := by decide +kernel
theorem dX1_init_15 : decode cX1_init 15 = .ok (.aload_n 0, 1) := by decide +kernel
theorem dX1_init_16 : decode cX1_init 16 = .ok (.new 7, 3) := by decide +kernel
theorem dX1_init_19 : decode cX1_init 19 = .ok (.dup, 1) := by decide +kernel
theorem dX1_init_20 : decode cX1_init 20 = .ok (.invokespecial 9, 3) := by decide +kernel
theorem dX1_init_23 : decode cX1_init 23 = .ok (.putfield 16, 3) := by decide +kernel
theorem dX1_init_26 : decode cX1_init 26 = .ok (.aload_n 0, 1) := by decide +kernel
theorem dX1_init_27 : decode cX1_init 27 = .ok (.iload_n 2, 1) := by decide +kernel
theorem dX1_init_28 : decode cX1_init 28 = .ok (.putfield 19, 3) := by decide +kernel
theorem dX1_init_31 : decode cX1_init 31 = .ok (.aload_n 0, 1) := by decide +kernel
theorem dX1_init_32 : decode cX1_init 32 = .ok (.getfield 10, 3) := by decide +kernel
theorem dX1_init_35 : decode cX1_init 35 = .ok (.iload_n 1, 1) := by decide +kernel
theorem dX1_init_36 : decode cX1_init 36 = .ok (.invokevirtual 23, 3) := by decide +kernel
theorem dX1_init_39 : decode cX1_init 39 = .ok (.aload_n 0, 1) := by decide +kernel
theorem dX1_init_40 : decode cX1_init 40 = .ok (.getfield 16, 3) := by decide +kernel
theorem dX1_init_43 : decode cX1_init 43 = .ok (.aload_n 0, 1) := by decide +kernel
theorem dX1_init_44 : decode cX1_init 44 = .ok (.getfield 10, 3) := by decide +kernel
theorem dX1_init_47 : decode cX1_init 47 = .ok (.iload_n 2, 1) := by decide +kernel
theorem dX1_init_48 : decode cX1_init 48 = .ok (.invokevirtual 27, 3) := by decide +kernel
theorem dX1_init_51 : decode cX1_init 51 = .ok (.return_, 1) := by decide +kernel
set_option maxRecDepth 20000 in
theorem ggX1_gain_X0_add : GoodIn wsX1_gain wsX0_add := goodIn_r _ [8, 9, 10, 11, 12, 13, 14, 7, 15, 16, 17, 18, 19, 20, 21, 22, 23, 24, 25, 26, 27, 28, 29, 30, 38, 39] (by decide +kernel) (by decide +kernel)
set_option maxRecDepth 20000 in
theorem gX1_gain_X0_add : GoodIn wsX1_gain (wsV RX1 31 RX0 yX0_add wsX0_add) := goodIn_app (goodIn_of _ (by decide +kernel)) ggX1_gain_X0_add
set_option maxRecDepth 20000 in
theorem ggX1_gain_X0_becomeQuotient : GoodIn wsX1_gain wsX0_becomeQuotient := goodIn_r _ [34, 11, 9, 12, 13, 14, 7, 15, 16, 17, 18, 19, 20, 21, 22, 27, 28, 29, 30, 38, 39] (by decide +kernel) (by decide +kernel)
set_option maxRecDepth 20000 in
theorem gX1_gain_X0_becomeQuotient : GoodIn wsX1_gain (wsV RX1 27 RX0 yX0_becomeQuotient wsX0_becomeQuotient) := goodIn_app (goodIn_of _ (by decide +kernel)) ggX1_gain_X0_becomeQuotient
theorem dX1_gain_0 : decode cX1_gain 0 = .ok (.aload_n 0, 1) := by decide +kernel
theorem dX1_gain_1 : decode cX1_gain 1 = .ok (.getfield 10, 3) := by decide +kernel
theorem dX1_gain_4 : decode cX1_gain 4 = .ok (.aload_n 1, 1) := by decide +kernel
theorem dX1_gain_5 : decode cX1_gain 5 = .ok (.invokevirtual 31, 3) := by decide +kernel
theorem dX1_gain_8 : decode cX1_gain 8 = .ok (.aload_n 0, 1) := by decide +kernel
theorem dX1_gain_9 : decode cX1_gain 9 = .ok (.getfield 16, 3) := by decide +kernel
theorem dX1_gain_12 : decode cX1_gain 12 = .ok (.aload_n 0, 1) := by decide +kernel
theorem dX1_gain_13 : decode cX1_gain 13 = .ok (.getfield 10, 3) := by decide +kernel
theorem dX1_gain_16 : decode cX1_gain 16 = .ok (.aload_n 0, 1) := by decide +kernel
theorem dX1_gain_17 : decode cX1_gain 17 = .ok (.getfield 19, 3) := by decide +kernel
theorem dX1_gain_20 : decode cX1_gain 20 = .ok (.invokevirtual 27, 3) := by decide +kernel
theorem dX1_gain_23 : decode cX1_gain 23 = .ok (.return_, 1) := by decide +kernel
set_option maxRecDepth 20000 in
theorem ggX1_giveAway_X0_takeAway : GoodIn wsX1_giveAway wsX0_takeAway := goodIn_r _ [8, 9, 10, 11, 12, 13, 7, 14, 15, 16, 17, 18, 19, 20, 21, 22, 23, 24, 25, 26, 34, 35] (by decide +kernel) (by decide +kernel)
set_option maxRecDepth 20000 in
theorem gX1_giveAway_X0_takeAway : GoodIn wsX1_giveAway (wsV RX1 35 RX0 yX0_takeAway wsX0_takeAway) := goodIn_app (goodIn_of _ (by decide +kernel)) ggX1_giveAway_X0_takeAway
set_option maxRecDepth 20000 in
theorem ggX1_giveAway_X0_becomeQuotient : GoodIn wsX1_giveAway wsX0_becomeQuotient := goodIn_r _ [30, 15, 9, 11, 12, 13, 7, 14, 16, 17, 18, 19, 20, 21, 22, 23, 24, 25, 26, 34, 35] (by decide +kernel) (by decide +kernel)
set_option maxRecDepth 20000 in
theorem gX1_giveAway_X0_becomeQuotient : GoodIn wsX1_giveAway (wsV RX1 27 RX0 yX0_becomeQuotient wsX0_becomeQuotient) := goodIn_app (goodIn_of _ (by decide +kernel)) ggX1_giveAway_X0_becomeQuotient
theorem dX1_giveAway_0 : decode cX1_giveAway 0 = .ok (.aload_n 0, 1) := by decide +kernel
theorem dX1_giveAway_1 : decode cX1_giveAway 1 = .ok (.getfield 10, 3) := by decide +kernel
theorem dX1_giveAway_4 : decode cX1_giveAway 4 = .ok (.aload_n 1, 1) := by decide +kernel
theorem dX1_giveAway_5 : decode cX1_giveAway 5 = .ok (.invokevirtual 35, 3) := by decide +kernel
theorem dX1_giveAway_8 : decode cX1_giveAway 8 = .ok (.aload_n 0, 1) := by decide +kernel
theorem dX1_giveAway_9 : decode cX1_giveAway 9 = .ok (.getfield 16, 3) := by decide +kernel
theorem dX1_giveAway_12 : decode cX1_giveAway 12 = .ok (.aload_n 0, 1) := by decide +kernel
theorem dX1_giveAway_13 : decode cX1_giveAway 13 = .ok (.getfield 10, 3) := by decide +kernel
theorem dX1_giveAway_16 : decode cX1_giveAway 16 = .ok (.aload_n 0, 1) := by decide +kernel
theorem dX1_giveAway_17 : decode cX1_giveAway 17 = .ok (.getfield 19, 3) := by decide +kernel
theorem dX1_giveAway_20 : decode cX1_giveAway 20 = .ok (.invokevirtual 27, 3) := by decide +kernel
theorem dX1_giveAway_23 : decode cX1_giveAway 23 = .ok (.return_, 1) := by decide +kernel
set_option maxRecDepth 20000 in
theorem ggX2_init_X1_init : GoodIn wsX2_init wsX1_init := goodIn_r _ [17, 18, 2, 3, 19, 9, 10, 20, 21, 22, 23, 24, 25, 26, 27, 28, 29, 30, 31, 32, 33, 34, 35, 36, 37, 38, 39, 40, 41, 42, 43, 44, 45, 46, 47, 48, 49, 50, 51, 61, 62, 53, 54, 55] (by decide +kernel) (by decide +kernel)
set_option maxRecDepth 20000 in
theorem gX2_init_X1_init : GoodIn wsX2_init (wsX1_init) := ggX2_init_X1_init
set_option maxRecDepth 20000 in
theorem ggX2_init_X0_init : GoodIn wsX2_init wsX0_init := goodIn_r _ [24, 25, 2, 3, 26, 27, 28, 61, 62] (by decide +kernel) (by decide +kernel)
set_option maxRecDepth 20000 in
theorem gX2_init_X0_init_n22 : GoodIn wsX2_init (wsX0_init) := ggX2_init_X0_init
set_option maxRecDepth 20000 in
theorem ggX2_init_X0_become : GoodIn wsX2_init wsX0_become := goodIn_r _ [32, 27, 28, 33, 34, 35, 10, 36, 37, 38, 39, 40, 41, 42, 43, 44, 45, 46, 47, 61, 62] (by decide +kernel) (by decide +kernel)
set_option maxRecDepth 20000 in
theorem gX2_init_X0_become : GoodIn wsX2_init (wsV RX2 39 RX0 yX0_become wsX0_become) := goodIn_app (goodIn_of _ (by decide +kernel)) ggX2_init_X0_become
theorem dX2_init_0 : decode cX2_init 0 = .ok (.aload_n 0, 1) := by decide +kernel
theorem dX2_init_1 : decode cX2_init 1 = .ok (.invokespecial 3, 3) := by decide +kernel
theorem dX2_init_4 : decode cX2_init 4 = .ok (.aload_n 0, 1) := by decide +kernel
theorem dX2_init_5 : decode cX2_init 5 = .ok (.new 9, 3) := by decide +kernel
theorem dX2_init_8 : decode cX2_init 8 = .ok (.dup, 1) := by decide +kernel
theorem dX2_init_9 : decode cX2_init 9 = .ok (.sipush 4000, 3) := by decide +kernel
theorem dX2_init_12 : decode cX2_init 12 = .ok (.sipush 200, 3) := by decide +kernel
theorem dX2_init_15 : decode cX2_init 15 = .ok (.invokespecial 11, 3) := by decide +kernel
theorem dX2_init_18 : decode cX2_init 18 = .ok (.putfield 14, 3) := by decide +kernel
theorem dX2_init_21 : decode cX2_init 21 = .ok (.aload_n 0, 1) := by decide +kernel
theorem dX2_init_22 : decode cX2_init 22 = .ok (.new 20, 3) := by decide +kernel
theorem dX2_init_25 : decode cX2_init 25 = .ok (.dup, 1) := by decide +kernel
theorem dX2_init_26 : decode cX2_init 26 = .ok (.invokespecial 22, 3) := by decide +kernel
theorem dX2_init_29 : decode cX2_init 29 = .ok (.putfield 23, 3) := by decide +kernel
theorem dX2_init_32 : decode cX2_init 32 = .ok (.aload_n 0, 1) := by decide +kernel
theorem dX2_init_33 : decode cX2_init 33 = .ok (.lconst 0, 1) := by decide +kernel
theorem dX2_init_34 : decode cX2_init 34 = .ok (.putfield 27, 3) := by decide +kernel
theorem dX2_init_37 : decode cX2_init 37 = .ok (.aload_n 0, 1) := by decide +kernel
theorem dX2_init_38 : decode cX2_init 38 = .ok (.iconst 0, 1) := by decide +kernel
theorem dX2_init_39 : decode cX2_init 39 = .ok (.putfield 31, 3) := by decide +kernel
theorem dX2_init_42 : decode cX2_init 42 = .ok (.aload_n 0, 1) := by decide +kernel
theorem dX2_init_43 : decode cX2_init 43 = .ok (.iconst 0, 1) := by decide +kernel
theorem dX2_init_44 : decode cX2_init 44 = .ok (.putfield 35, 3) := by decide +kernel
theorem dX2_init_47 : decode cX2_init 47 = .ok (.aload_n 0, 1) := by decide +kernel
theorem dX2_init_48 : decode cX2_init 48 = .ok (.getfield 23, 3) := by decide +kernel
theorem dX2_init_51 : decode cX2_init 51 = .ok (.bipush 20, 2) := by decide +kernel
theorem dX2_init_53 : decode cX2_init 53 = .ok (.invokevirtual 39, 3) := by decide +kernel
theorem dX2_init_56 : decode cX2_init 56 = .ok (.return_, 1) := by decide +kernel
set_option maxRecDepth 20000 in
theorem ggX2_giveToAir_X0_becomeSame : GoodIn wsX2_giveToAir wsX0_becomeSame := goodIn_r _ [10, 11, 12, 13, 14, 15, 9, 16, 17, 18, 19, 20, 21, 22, 23, 24, 25, 26, 27, 67, 68] (by decide +kernel) (by decide +kernel)
set_option maxRecDepth 20000 in
theorem gX2_giveToAir_X0_becomeSame : GoodIn wsX2_giveToAir (wsV RX2 46 RX0 yX0_becomeSame wsX0_becomeSame) := goodIn_app (goodIn_of _ (by decide +kernel)) ggX2_giveToAir_X0_becomeSame
set_option maxRecDepth 20000 in
theorem ggX2_giveToAir_X0_takeAway : GoodIn wsX2_giveToAir wsX0_takeAway := goodIn_r _ [31, 11, 32, 13, 14, 15, 9, 16, 12, 17, 18, 19, 20, 21, 22, 23, 24, 25, 26, 27, 67, 68] (by decide +kernel) (by decide +kernel)
set_option maxRecDepth 20000 in
theorem gX2_giveToAir_X0_takeAway : GoodIn wsX2_giveToAir (wsV RX2 50 RX0 yX0_takeAway wsX0_takeAway) := goodIn_app (goodIn_of _ (by decide +kernel)) ggX2_giveToAir_X0_takeAway
set_option maxRecDepth 20000 in
theorem ggX2_giveToAir_X0_becomeProduct : GoodIn wsX2_giveToAir wsX0_becomeProduct := goodIn_r _ [36, 11, 32, 12, 13, 14, 15, 9, 16, 17, 18, 19, 20, 21, 22, 23, 37, 38, 39, 40, 24, 25, 26, 27, 67, 68] (by decide +kernel) (by decide +kernel)
set_option maxRecDepth 20000 in
theorem gX2_giveToAir_X0_becomeProduct : GoodIn wsX2_giveToAir (wsV RX2 53 RX0 yX0_becomeProduct wsX0_becomeProduct) := goodIn_app (goodIn_of _ (by decide +kernel)) ggX2_giveToAir_X0_becomeProduct
set_option maxRecDepth 20000 in
theorem ggX2_giveToAir_X0_becomeQuotient : GoodIn wsX2_giveToAir wsX0_becomeQuotient := goodIn_r _ [44, 12, 11, 13, 14, 15, 9, 16, 17, 18, 19, 20, 21, 22, 23, 24, 25, 26, 27, 67, 68] (by decide +kernel) (by decide +kernel)
set_option maxRecDepth 20000 in
theorem gX2_giveToAir_X0_becomeQuotient : GoodIn wsX2_giveToAir (wsV RX2 57 RX0 yX0_becomeQuotient wsX0_becomeQuotient) := goodIn_app (goodIn_of _ (by decide +kernel)) ggX2_giveToAir_X0_becomeQuotient
set_option maxRecDepth 20000 in
theorem ggX2_giveToAir_X1_giveAway : GoodIn wsX2_giveToAir wsX1_giveAway := goodIn_r _ [49, 50, 51, 52, 53, 29, 30, 9, 31, 11, 32, 13, 14, 15, 16, 12, 17, 18, 19, 20, 21, 22, 23, 24, 25, 26, 27, 54, 42, 43, 44, 64, 65, 66, 67, 68] (by decide +kernel) (by decide +kernel)
set_option maxRecDepth 20000 in
theorem gX2_giveToAir_X1_giveAway : GoodIn wsX2_giveToAir (wsV RX2 60 RX1 yX1_giveAway wsX1_giveAway) := goodIn_app (goodIn_of _ (by decide +kernel)) ggX2_giveToAir_X1_giveAway
set_option maxRecDepth 20000 in
theorem ggX2_giveToAir_X0_lowBits : GoodIn wsX2_giveToAir wsX0_lowBits := goodIn_r _ [58, 11, 67, 68] (by decide +kernel) (by decide +kernel)
set_option maxRecDepth 20000 in
theorem gX2_giveToAir_X0_lowBits : GoodIn wsX2_giveToAir (wsV RX2 63 RX0 yX0_lowBits wsX0_lowBits) := goodIn_app (goodIn_of _ (by decide +kernel)) ggX2_giveToAir_X0_lowBits
theorem dX2_giveToAir_0 : decode cX2_giveToAir 0 = .ok (.aload_n 1, 1) := by decide +kernel
theorem dX2_giveToAir_1 : decode cX2_giveToAir 1 = .ok (.aload_n 0, 1) := by decide +kernel
theorem dX2_giveToAir_2 : decode cX2_giveToAir 2 = .ok (.getfield 14, 3) := by decide +kernel
theorem dX2_giveToAir_5 : decode cX2_giveToAir 5 = .ok (.getfield 43, 3) := by decide +kernel
theorem dX2_giveToAir_8 : decode cX2_giveToAir 8 = .ok (.invokevirtual 46, 3) := by decide +kernel
theorem dX2_giveToAir_11 : decode cX2_giveToAir 11 = .ok (.aload_n 1, 1) := by decide +kernel
theorem dX2_giveToAir_12 : decode cX2_giveToAir 12 = .ok (.aload_n 0, 1) := by decide +kernel
theorem dX2_giveToAir_13 : decode cX2_giveToAir 13 = .ok (.getfield 23, 3) := by decide +kernel
theorem dX2_giveToAir_16 : decode cX2_giveToAir 16 = .ok (.invokevirtual 50, 3) := by decide +kernel
theorem dX2_giveToAir_19 : decode cX2_giveToAir 19 = .ok (.aload_n 1, 1) := by decide +kernel
theorem dX2_giveToAir_20 : decode cX2_giveToAir 20 = .ok (.aload_n 1, 1) := by decide +kernel
theorem dX2_giveToAir_21 : decode cX2_giveToAir 21 = .ok (.aload_n 0, 1) := by decide +kernel
theorem dX2_giveToAir_22 : decode cX2_giveToAir 22 = .ok (.getfield 31, 3) := by decide +kernel
theorem dX2_giveToAir_25 : decode cX2_giveToAir 25 = .ok (.iconst 1, 1) := by decide +kernel
theorem dX2_giveToAir_26 : decode cX2_giveToAir 26 = .ok (.iadd, 1) := by decide +kernel
theorem dX2_giveToAir_27 : decode cX2_giveToAir 27 = .ok (.invokevirtual 53, 3) := by decide +kernel
theorem dX2_giveToAir_30 : decode cX2_giveToAir 30 = .ok (.aload_n 1, 1) := by decide +kernel
theorem dX2_giveToAir_31 : decode cX2_giveToAir 31 = .ok (.aload_n 1, 1) := by decide +kernel
theorem dX2_giveToAir_32 : decode cX2_giveToAir 32 = .ok (.iconst 2, 1) := by decide +kernel
theorem dX2_giveToAir_33 : decode cX2_giveToAir 33 = .ok (.invokevirtual 57, 3) := by decide +kernel
theorem dX2_giveToAir_36 : decode cX2_giveToAir 36 = .ok (.aload_n 0, 1) := by decide +kernel
theorem dX2_giveToAir_37 : decode cX2_giveToAir 37 = .ok (.getfield 14, 3) := by decide +kernel
theorem dX2_giveToAir_40 : decode cX2_giveToAir 40 = .ok (.aload_n 1, 1) := by decide +kernel
theorem dX2_giveToAir_41 : decode cX2_giveToAir 41 = .ok (.invokevirtual 60, 3) := by decide +kernel
theorem dX2_giveToAir_44 : decode cX2_giveToAir 44 = .ok (.aload_n 0, 1) := by decide +kernel
theorem dX2_giveToAir_45 : decode cX2_giveToAir 45 = .ok (.dup, 1) := by decide +kernel
theorem dX2_giveToAir_46 : decode cX2_giveToAir 46 = .ok (.getfield 27, 3) := by decide +kernel
theorem dX2_giveToAir_49 : decode cX2_giveToAir 49 = .ok (.aload_n 1, 1) := by decide +kernel
theorem dX2_giveToAir_50 : decode cX2_giveToAir 50 = .ok (.invokevirtual 63, 3) := by decide +kernel
theorem dX2_giveToAir_53 : decode cX2_giveToAir 53 = .ok (.ladd, 1) := by decide +kernel
theorem dX2_giveToAir_54 : decode cX2_giveToAir 54 = .ok (.putfield 27, 3) := by decide +kernel
theorem dX2_giveToAir_57 : decode cX2_giveToAir 57 = .ok (.return_, 1) := by decide +kernel
set_option maxRecDepth 20000 in
theorem ggX2_stepFan_X0_upTo : GoodIn wsX2_stepFan wsX0_upTo := goodIn_r _ [9, 10, 11, 20, 21] (by decide +kernel) (by decide +kernel)
set_option maxRecDepth 20000 in
theorem gX2_stepFan_X0_upTo : GoodIn wsX2_stepFan (wsV RX2 67 RX0 yX0_upTo wsX0_upTo) := goodIn_app (goodIn_of _ (by decide +kernel)) ggX2_stepFan_X0_upTo
theorem dX2_stepFan_0 : decode cX2_stepFan 0 = .ok (.aload_n 0, 1) := by decide +kernel
theorem dX2_stepFan_1 : decode cX2_stepFan 1 = .ok (.getfield 35, 3) := by decide +kernel
theorem dX2_stepFan_4 : decode cX2_stepFan 4 = .ok (.ifCond .eq 4, 3) := by decide +kernel
theorem dX2_stepFan_7 : decode cX2_stepFan 7 = .ok (.return_, 1) := by decide +kernel
theorem dX2_stepFan_8 : decode cX2_stepFan 8 = .ok (.aload_n 0, 1) := by decide +kernel
theorem dX2_stepFan_9 : decode cX2_stepFan 9 = .ok (.getfield 14, 3) := by decide +kernel
theorem dX2_stepFan_12 : decode cX2_stepFan 12 = .ok (.getfield 43, 3) := by decide +kernel
theorem dX2_stepFan_15 : decode cX2_stepFan 15 = .ok (.bipush 80, 2) := by decide +kernel
theorem dX2_stepFan_17 : decode cX2_stepFan 17 = .ok (.invokevirtual 67, 3) := by decide +kernel
theorem dX2_stepFan_20 : decode cX2_stepFan 20 = .ok (.istore_n 1, 1) := by decide +kernel
theorem dX2_stepFan_21 : decode cX2_stepFan 21 = .ok (.aload_n 0, 1) := by decide +kernel
theorem dX2_stepFan_22 : decode cX2_stepFan 22 = .ok (.getfield 31, 3) := by decide +kernel
theorem dX2_stepFan_25 : decode cX2_stepFan 25 = .ok (.iconst 3, 1) := by decide +kernel
theorem dX2_stepFan_26 : decode cX2_stepFan 26 = .ok (.if_icmp .ge 30, 3) := by decide +kernel
theorem dX2_stepFan_29 : decode cX2_stepFan 29 = .ok (.iload_n 1, 1) := by decide +kernel
theorem dX2_stepFan_30 : decode cX2_stepFan 30 = .ok (.bipush 40, 2) := by decide +kernel
theorem dX2_stepFan_32 : decode cX2_stepFan 32 = .ok (.bipush 10, 2) := by decide +kernel
theorem dX2_stepFan_34 : decode cX2_stepFan 34 = .ok (.aload_n 0, 1) := by decide +kernel
theorem dX2_stepFan_35 : decode cX2_stepFan 35 = .ok (.getfield 31, 3) := by decide +kernel
theorem dX2_stepFan_38 : decode cX2_stepFan 38 = .ok (.imul, 1) := by decide +kernel
theorem dX2_stepFan_39 : decode cX2_stepFan 39 = .ok (.iadd, 1) := by decide +kernel
theorem dX2_stepFan_40 : decode cX2_stepFan 40 = .ok (.if_icmp .lt 16, 3) := by decide +kernel
theorem dX2_stepFan_43 : decode cX2_stepFan 43 = .ok (.aload_n 0, 1) := by decide +kernel
theorem dX2_stepFan_44 : decode cX2_stepFan 44 = .ok (.dup, 1) := by decide +kernel
theorem dX2_stepFan_45 : decode cX2_stepFan 45 = .ok (.getfield 31, 3) := by decide +kernel
theorem dX2_stepFan_48 : decode cX2_stepFan 48 = .ok (.iconst 1, 1) := by decide +kernel
theorem dX2_stepFan_49 : decode cX2_stepFan 49 = .ok (.iadd, 1) := by decide +kernel
theorem dX2_stepFan_50 : decode cX2_stepFan 50 = .ok (.putfield 31, 3) := by decide +kernel
theorem dX2_stepFan_53 : decode cX2_stepFan 53 = .ok (.goto 34, 3) := by decide +kernel
theorem dX2_stepFan_56 : decode cX2_stepFan 56 = .ok (.aload_n 0, 1) := by decide +kernel
theorem dX2_stepFan_57 : decode cX2_stepFan 57 = .ok (.getfield 31, 3) := by decide +kernel
theorem dX2_stepFan_60 : decode cX2_stepFan 60 = .ok (.ifCond .le 27, 3) := by decide +kernel
theorem dX2_stepFan_63 : decode cX2_stepFan 63 = .ok (.iload_n 1, 1) := by decide +kernel
theorem dX2_stepFan_64 : decode cX2_stepFan 64 = .ok (.bipush 25, 2) := by decide +kernel
theorem dX2_stepFan_66 : decode cX2_stepFan 66 = .ok (.bipush 10, 2) := by decide +kernel
theorem dX2_stepFan_68 : decode cX2_stepFan 68 = .ok (.aload_n 0, 1) := by decide +kernel
theorem dX2_stepFan_69 : decode cX2_stepFan 69 = .ok (.getfield 31, 3) := by decide +kernel
theorem dX2_stepFan_72 : decode cX2_stepFan 72 = .ok (.imul, 1) := by decide +kernel
theorem dX2_stepFan_73 : decode cX2_stepFan 73 = .ok (.iadd, 1) := by decide +kernel
theorem dX2_stepFan_74 : decode cX2_stepFan 74 = .ok (.if_icmp .ge 13, 3) := by decide +kernel
theorem dX2_stepFan_77 : decode cX2_stepFan 77 = .ok (.aload_n 0, 1) := by decide +kernel
theorem dX2_stepFan_78 : decode cX2_stepFan 78 = .ok (.dup, 1) := by decide +kernel
theorem dX2_stepFan_79 : decode cX2_stepFan 79 = .ok (.getfield 31, 3) := by decide +kernel
theorem dX2_stepFan_82 : decode cX2_stepFan 82 = .ok (.iconst 1, 1) := by decide +kernel
theorem dX2_stepFan_83 : decode cX2_stepFan 83 = .ok (.isub, 1) := by decide +kernel
theorem dX2_stepFan_84 : decode cX2_stepFan 84 = .ok (.putfield 31, 3) := by decide +kernel
theorem dX2_stepFan_87 : decode cX2_stepFan 87 = .ok (.return_, 1) := by decide +kernel
theorem dX2_runFan_0 : decode cX2_runFan 0 = .ok (.iconst 5, 1) := by decide +kernel
theorem dX2_runFan_1 : decode cX2_runFan 1 = .ok (.aload_n 0, 1) := by decide +kernel
theorem dX2_runFan_2 : decode cX2_runFan 2 = .ok (.getfield 31, 3) := by decide +kernel
theorem dX2_runFan_5 : decode cX2_runFan 5 = .ok (.imul, 1) := by decide +kernel
theorem dX2_runFan_6 : decode cX2_runFan 6 = .ok (.istore_n 1, 1) := by decide +kernel
theorem dX2_runFan_7 : decode cX2_runFan 7 = .ok (.aload_n 0, 1) := by decide +kernel
theorem dX2_runFan_8 : decode cX2_runFan 8 = .ok (.dup, 1) := by decide +kernel
theorem dX2_runFan_9 : decode cX2_runFan 9 = .ok (.getfield 27, 3) := by decide +kernel
theorem dX2_runFan_12 : decode cX2_runFan 12 = .ok (.iload_n 1, 1) := by decide +kernel
theorem dX2_runFan_13 : decode cX2_runFan 13 = .ok (.i2l, 1) := by decide +kernel
theorem dX2_runFan_14 : decode cX2_runFan 14 = .ok (.ladd, 1) := by decide +kernel
theorem dX2_runFan_15 : decode cX2_runFan 15 = .ok (.putfield 27, 3) := by decide +kernel
theorem dX2_runFan_18 : decode cX2_runFan 18 = .ok (.iload_n 1, 1) := by decide +kernel
theorem dX2_runFan_19 : decode cX2_runFan 19 = .ok (.ireturn, 1) := by decide +kernel
set_option maxRecDepth 20000 in
theorem ggX3_init_X1_init : GoodIn wsX3_init wsX1_init := goodIn_r _ [29, 30, 2, 3, 31, 32, 33, 34, 35, 36, 37, 38, 39, 40, 41, 42, 43, 44, 45, 46, 47, 48, 49, 50, 51, 52, 53, 54, 55, 56, 57, 58, 59, 60, 61, 62, 63, 64, 65, 89, 90, 86, 87, 88] (by decide +kernel) (by decide +kernel)
set_option maxRecDepth 20000 in
theorem gX3_init_X1_init : GoodIn wsX3_init (wsX1_init) := ggX3_init_X1_init
theorem dX3_init_0 : decode cX3_init 0 = .ok (.aload_n 0, 1) := by decide +kernel
theorem dX3_init_1 : decode cX3_init 1 = .ok (.invokespecial 3, 3) := by decide +kernel
theorem dX3_init_4 : decode cX3_init 4 = .ok (.aload_n 0, 1) := by decide +kernel
theorem dX3_init_5 : decode cX3_init 5 = .ok (.bipush 108, 2) := by decide +kernel
theorem dX3_init_7 : decode cX3_init 7 = .ok (.putfield 9, 3) := by decide +kernel
theorem dX3_init_10 : decode cX3_init 10 = .ok (.aload_n 0, 1) := by decide +kernel
theorem dX3_init_11 : decode cX3_init 11 = .ok (.iconst 0, 1) := by decide +kernel
theorem dX3_init_12 : decode cX3_init 12 = .ok (.putfield 15, 3) := by decide +kernel
theorem dX3_init_15 : decode cX3_init 15 = .ok (.aload_n 0, 1) := by decide +kernel
theorem dX3_init_16 : decode cX3_init 16 = .ok (.iconst 0, 1) := by decide +kernel
theorem dX3_init_17 : decode cX3_init 17 = .ok (.putfield 19, 3) := by decide +kernel
theorem dX3_init_20 : decode cX3_init 20 = .ok (.aload_n 0, 1) := by decide +kernel
theorem dX3_init_21 : decode cX3_init 21 = .ok (.iconst 0, 1) := by decide +kernel
theorem dX3_init_22 : decode cX3_init 22 = .ok (.putfield 22, 3) := by decide +kernel
theorem dX3_init_25 : decode cX3_init 25 = .ok (.aload_n 0, 1) := by decide +kernel
theorem dX3_init_26 : decode cX3_init 26 = .ok (.iconst 0, 1) := by decide +kernel
theorem dX3_init_27 : decode cX3_init 27 = .ok (.putfield 25, 3) := by decide +kernel
theorem dX3_init_30 : decode cX3_init 30 = .ok (.aload_n 0, 1) := by decide +kernel
theorem dX3_init_31 : decode cX3_init 31 = .ok (.bipush 45, 2) := by decide +kernel
theorem dX3_init_33 : decode cX3_init 33 = .ok (.putfield 28, 3) := by decide +kernel
theorem dX3_init_36 : decode cX3_init 36 = .ok (.aload_n 0, 1) := by decide +kernel
theorem dX3_init_37 : decode cX3_init 37 = .ok (.bipush 97, 2) := by decide +kernel
theorem dX3_init_39 : decode cX3_init 39 = .ok (.putfield 31, 3) := by decide +kernel
theorem dX3_init_42 : decode cX3_init 42 = .ok (.aload_n 0, 1) := by decide +kernel
theorem dX3_init_43 : decode cX3_init 43 = .ok (.iconst 0, 1) := by decide +kernel
theorem dX3_init_44 : decode cX3_init 44 = .ok (.putfield 34, 3) := by decide +kernel
theorem dX3_init_47 : decode cX3_init 47 = .ok (.aload_n 0, 1) := by decide +kernel
theorem dX3_init_48 : decode cX3_init 48 = .ok (.iconst 0, 1) := by decide +kernel
theorem dX3_init_49 : decode cX3_init 49 = .ok (.putfield 37, 3) := by decide +kernel
theorem dX3_init_52 : decode cX3_init 52 = .ok (.aload_n 0, 1) := by decide +kernel
theorem dX3_init_53 : decode cX3_init 53 = .ok (.iconst 0, 1) := by decide +kernel
theorem dX3_init_54 : decode cX3_init 54 = .ok (.putfield 40, 3) := by decide +kernel
theorem dX3_init_57 : decode cX3_init 57 = .ok (.aload_n 0, 1) := by decide +kernel
theorem dX3_init_58 : decode cX3_init 58 = .ok (.iconst 0, 1) := by decide +kernel
theorem dX3_init_59 : decode cX3_init 59 = .ok (.putfield 44, 3) := by decide +kernel
theorem dX3_init_62 : decode cX3_init 62 = .ok (.aload_n 0, 1) := by decide +kernel
theorem dX3_init_63 : decode cX3_init 63 = .ok (.iconst 0, 1) := by decide +kernel
theorem dX3_init_64 : decode cX3_init 64 = .ok (.putfield 47, 3) := by decide +kernel
theorem dX3_init_67 : decode cX3_init 67 = .ok (.aload_n 0, 1) := by decide +kernel
theorem dX3_init_68 : decode cX3_init 68 = .ok (.new 50, 3) := by decide +kernel
theorem dX3_init_71 : decode cX3_init 71 = .ok (.dup, 1) := by decide +kernel
theorem dX3_init_72 : decode cX3_init 72 = .ok (.sipush 400, 3) := by decide +kernel
theorem dX3_init_75 : decode cX3_init 75 = .ok (.bipush 20, 2) := by decide +kernel
theorem dX3_init_77 : decode cX3_init 77 = .ok (.invokespecial 52, 3) := by decide +kernel
theorem dX3_init_80 : decode cX3_init 80 = .ok (.putfield 55, 3) := by decide +kernel
theorem dX3_init_83 : decode cX3_init 83 = .ok (.aload_n 0, 1) := by decide +kernel
theorem dX3_init_84 : decode cX3_init 84 = .ok (.bipush 20, 2) := by decide +kernel
theorem dX3_init_86 : decode cX3_init 86 = .ok (.putfield 59, 3) := by decide +kernel
theorem dX3_init_89 : decode cX3_init 89 = .ok (.aload_n 0, 1) := by decide +kernel
theorem dX3_init_90 : decode cX3_init 90 = .ok (.iconst 0, 1) := by decide +kernel
theorem dX3_init_91 : decode cX3_init 91 = .ok (.putfield 62, 3) := by decide +kernel
theorem dX3_init_94 : decode cX3_init 94 = .ok (.aload_n 0, 1) := by decide +kernel
theorem dX3_init_95 : decode cX3_init 95 = .ok (.iconst 0, 1) := by decide +kernel
theorem dX3_init_96 : decode cX3_init 96 = .ok (.putfield 65, 3) := by decide +kernel
theorem dX3_init_99 : decode cX3_init 99 = .ok (.aload_n 0, 1) := by decide +kernel
theorem dX3_init_100 : decode cX3_init 100 = .ok (.iconst 0, 1) := by decide +kernel
theorem dX3_init_101 : decode cX3_init 101 = .ok (.putfield 68, 3) := by decide +kernel
theorem dX3_init_104 : decode cX3_init 104 = .ok (.aload_n 0, 1) := by decide +kernel
theorem dX3_init_105 : decode cX3_init 105 = .ok (.iload_n 1, 1) := by decide +kernel
theorem dX3_init_106 : decode cX3_init 106 = .ok (.putfield 71, 3) := by decide +kernel
theorem dX3_init_109 : decode cX3_init 109 = .ok (.aload_n 0, 1) := by decide +kernel
theorem dX3_init_110 : decode cX3_init 110 = .ok (.aload_n 2, 1) := by decide +kernel
theorem dX3_init_111 : decode cX3_init 111 = .ok (.putfield 74, 3) := by decide +kernel
theorem dX3_init_114 : decode cX3_init 114 = .ok (.aload_n 0, 1) := by decide +kernel
theorem dX3_init_115 : decode cX3_init 115 = .ok (.iload_n 3, 1) := by decide +kernel
theorem dX3_init_116 : decode cX3_init 116 = .ok (.putfield 78, 3) := by decide +kernel
theorem dX3_init_119 : decode cX3_init 119 = .ok (.return_, 1) := by decide +kernel
theorem dX3_inAge_0 : decode cX3_inAge 0 = .ok (.aload_n 0, 1) := by decide +kernel
theorem dX3_inAge_1 : decode cX3_inAge 1 = .ok (.getfield 68, 3) := by decide +kernel
theorem dX3_inAge_4 : decode cX3_inAge 4 = .ok (.bipush 10, 2) := by decide +kernel
theorem dX3_inAge_6 : decode cX3_inAge 6 = .ok (.idiv, 1) := by decide +kernel
theorem dX3_inAge_7 : decode cX3_inAge 7 = .ok (.ireturn, 1) := by decide +kernel
set_option maxRecDepth 20000 in
theorem ggX3_isTooOld_X3_inAge : GoodIn wsX3_isTooOld wsX3_inAge := goodIn_r _ [5, 6, 7, 8, 9, 10, 11, 12, 13, 14, 15, 16, 17, 18, 19, 20, 21, 22, 23, 24, 25, 26] (by decide +kernel) (by decide +kernel)
set_option maxRecDepth 20000 in
theorem gX3_isTooOld_X3_inAge : GoodIn wsX3_isTooOld (wsV RX3 81 RX3 yX3_inAge wsX3_inAge) := goodIn_app (goodIn_of _ (by decide +kernel)) ggX3_isTooOld_X3_inAge
theorem dX3_isTooOld_0 : decode cX3_isTooOld 0 = .ok (.aload_n 0, 1) := by decide +kernel
theorem dX3_isTooOld_1 : decode cX3_isTooOld 1 = .ok (.invokevirtual 81, 3) := by decide +kernel
theorem dX3_isTooOld_4 : decode cX3_isTooOld 4 = .ok (.bipush 100, 2) := by decide +kernel
theorem dX3_isTooOld_6 : decode cX3_isTooOld 6 = .ok (.if_icmp .le 7, 3) := by decide +kernel
theorem dX3_isTooOld_9 : decode cX3_isTooOld 9 = .ok (.iconst 1, 1) := by decide +kernel
theorem dX3_isTooOld_10 : decode cX3_isTooOld 10 = .ok (.goto 4, 3) := by decide +kernel
theorem dX3_isTooOld_13 : decode cX3_isTooOld 13 = .ok (.iconst 0, 1) := by decide +kernel
theorem dX3_isTooOld_14 : decode cX3_isTooOld 14 = .ok (.ireturn, 1) := by decide +kernel
theorem dX3_greatestSpeed_0 : decode cX3_greatestSpeed 0 = .ok (.aload_n 0, 1) := by decide +kernel
theorem dX3_greatestSpeed_1 : decode cX3_greatestSpeed 1 = .ok (.getfield 78, 3) := by decide +kernel
theorem dX3_greatestSpeed_4 : decode cX3_greatestSpeed 4 = .ok (.ifCond .eq 8, 3) := by decide +kernel
theorem dX3_greatestSpeed_7 : decode cX3_greatestSpeed 7 = .ok (.bipush 7, 2) := by decide +kernel
theorem dX3_greatestSpeed_9 : decode cX3_greatestSpeed 9 = .ok (.goto 4, 3) := by decide +kernel
theorem dX3_greatestSpeed_12 : decode cX3_greatestSpeed 12 = .ok (.iconst 4, 1) := by decide +kernel
theorem dX3_greatestSpeed_13 : decode cX3_greatestSpeed 13 = .ok (.ireturn, 1) := by decide +kernel
theorem dX3_workOfOneSpeed_0 : decode cX3_workOfOneSpeed 0 = .ok (.aload_n 0, 1) := by decide +kernel
theorem dX3_workOfOneSpeed_1 : decode cX3_workOfOneSpeed 1 = .ok (.getfield 78, 3) := by decide +kernel
theorem dX3_workOfOneSpeed_4 : decode cX3_workOfOneSpeed 4 = .ok (.ifCond .eq 7, 3) := by decide +kernel
theorem dX3_workOfOneSpeed_7 : decode cX3_workOfOneSpeed 7 = .ok (.iconst 3, 1) := by decide +kernel
theorem dX3_workOfOneSpeed_8 : decode cX3_workOfOneSpeed 8 = .ok (.goto 4, 3) := by decide +kernel
theorem dX3_workOfOneSpeed_11 : decode cX3_workOfOneSpeed 11 = .ok (.iconst 2, 1) := by decide +kernel
theorem dX3_workOfOneSpeed_12 : decode cX3_workOfOneSpeed 12 = .ok (.ireturn, 1) := by decide +kernel
set_option maxRecDepth 20000 in
theorem ggX3_voltsFor_X0_upTo : GoodIn wsX3_voltsFor wsX0_upTo := goodIn_r _ [7, 8, 9, 39, 40] (by decide +kernel) (by decide +kernel)
set_option maxRecDepth 20000 in
theorem gX3_voltsFor_X0_upTo : GoodIn wsX3_voltsFor (wsV RX3 89 RX0 yX0_upTo wsX0_upTo) := goodIn_app (goodIn_of _ (by decide +kernel)) ggX3_voltsFor_X0_upTo
set_option maxRecDepth 20000 in
theorem ggX3_voltsFor_X3_inAge : GoodIn wsX3_voltsFor wsX3_inAge := goodIn_r _ [14, 15, 16, 17, 18, 19, 20, 21, 22, 23, 24, 25, 26, 27, 28, 29, 30, 31, 32, 33, 34, 35] (by decide +kernel) (by decide +kernel)
set_option maxRecDepth 20000 in
theorem gX3_voltsFor_X3_inAge : GoodIn wsX3_voltsFor (wsV RX3 81 RX3 yX3_inAge wsX3_inAge) := goodIn_app (goodIn_of _ (by decide +kernel)) ggX3_voltsFor_X3_inAge
theorem dX3_voltsFor_0 : decode cX3_voltsFor 0 = .ok (.aload_n 0, 1) := by decide +kernel
theorem dX3_voltsFor_1 : decode cX3_voltsFor 1 = .ok (.getfield 55, 3) := by decide +kernel
theorem dX3_voltsFor_4 : decode cX3_voltsFor 4 = .ok (.getfield 85, 3) := by decide +kernel
theorem dX3_voltsFor_7 : decode cX3_voltsFor 7 = .ok (.bipush 80, 2) := by decide +kernel
theorem dX3_voltsFor_9 : decode cX3_voltsFor 9 = .ok (.invokevirtual 89, 3) := by decide +kernel
theorem dX3_voltsFor_12 : decode cX3_voltsFor 12 = .ok (.bipush 80, 2) := by decide +kernel
theorem dX3_voltsFor_14 : decode cX3_voltsFor 14 = .ok (.if_icmp .lt 8, 3) := by decide +kernel
theorem dX3_voltsFor_17 : decode cX3_voltsFor 17 = .ok (.bipush 25, 2) := by decide +kernel
theorem dX3_voltsFor_19 : decode cX3_voltsFor 19 = .ok (.goto 4, 3) := by decide +kernel
theorem dX3_voltsFor_22 : decode cX3_voltsFor 22 = .ok (.iconst 0, 1) := by decide +kernel
theorem dX3_voltsFor_23 : decode cX3_voltsFor 23 = .ok (.istore_n 2, 1) := by decide +kernel
theorem dX3_voltsFor_24 : decode cX3_voltsFor 24 = .ok (.sipush 500, 3) := by decide +kernel
theorem dX3_voltsFor_27 : decode cX3_voltsFor 27 = .ok (.bipush 60, 2) := by decide +kernel
theorem dX3_voltsFor_29 : decode cX3_voltsFor 29 = .ok (.iload_n 1, 1) := by decide +kernel
theorem dX3_voltsFor_30 : decode cX3_voltsFor 30 = .ok (.imul, 1) := by decide +kernel
theorem dX3_voltsFor_31 : decode cX3_voltsFor 31 = .ok (.iadd, 1) := by decide +kernel
theorem dX3_voltsFor_32 : decode cX3_voltsFor 32 = .ok (.aload_n 0, 1) := by decide +kernel
theorem dX3_voltsFor_33 : decode cX3_voltsFor 33 = .ok (.invokevirtual 81, 3) := by decide +kernel
theorem dX3_voltsFor_36 : decode cX3_voltsFor 36 = .ok (.iadd, 1) := by decide +kernel
theorem dX3_voltsFor_37 : decode cX3_voltsFor 37 = .ok (.iload_n 2, 1) := by decide +kernel
theorem dX3_voltsFor_38 : decode cX3_voltsFor 38 = .ok (.iadd, 1) := by decide +kernel
theorem dX3_voltsFor_39 : decode cX3_voltsFor 39 = .ok (.ireturn, 1) := by decide +kernel
theorem dX3_noteBusy_0 : decode cX3_noteBusy 0 = .ok (.aload_n 0, 1) := by decide +kernel
theorem dX3_noteBusy_1 : decode cX3_noteBusy 1 = .ok (.aload_n 0, 1) := by decide +kernel
theorem dX3_noteBusy_2 : decode cX3_noteBusy 2 = .ok (.getfield 44, 3) := by decide +kernel
theorem dX3_noteBusy_5 : decode cX3_noteBusy 5 = .ok (.putfield 47, 3) := by decide +kernel
theorem dX3_noteBusy_8 : decode cX3_noteBusy 8 = .ok (.aload_n 0, 1) := by decide +kernel
theorem dX3_noteBusy_9 : decode cX3_noteBusy 9 = .ok (.iload_n 1, 1) := by decide +kernel
theorem dX3_noteBusy_10 : decode cX3_noteBusy 10 = .ok (.putfield 44, 3) := by decide +kernel
theorem dX3_noteBusy_13 : decode cX3_noteBusy 13 = .ok (.return_, 1) := by decide +kernel
set_option maxRecDepth 20000 in
theorem ggX3_readSensor_X0_lowBits : GoodIn wsX3_readSensor wsX0_lowBits := goodIn_r _ [8, 9, 33, 34] (by decide +kernel) (by decide +kernel)
set_option maxRecDepth 20000 in
theorem gX3_readSensor_X0_lowBits : GoodIn wsX3_readSensor (wsV RX3 95 RX0 yX0_lowBits wsX0_lowBits) := goodIn_app (goodIn_of _ (by decide +kernel)) ggX3_readSensor_X0_lowBits
theorem dX3_readSensor_0 : decode cX3_readSensor 0 = .ok (.aload_n 0, 1) := by decide +kernel
theorem dX3_readSensor_1 : decode cX3_readSensor 1 = .ok (.getfield 55, 3) := by decide +kernel
theorem dX3_readSensor_4 : decode cX3_readSensor 4 = .ok (.getfield 85, 3) := by decide +kernel
theorem dX3_readSensor_7 : decode cX3_readSensor 7 = .ok (.invokevirtual 95, 3) := by decide +kernel
theorem dX3_readSensor_10 : decode cX3_readSensor 10 = .ok (.l2i, 1) := by decide +kernel
theorem dX3_readSensor_11 : decode cX3_readSensor 11 = .ok (.istore_n 1, 1) := by decide +kernel
theorem dX3_readSensor_12 : decode cX3_readSensor 12 = .ok (.aload_n 0, 1) := by decide +kernel
theorem dX3_readSensor_13 : decode cX3_readSensor 13 = .ok (.iload_n 1, 1) := by decide +kernel
theorem dX3_readSensor_14 : decode cX3_readSensor 14 = .ok (.iload_n 1, 1) := by decide +kernel
theorem dX3_readSensor_15 : decode cX3_readSensor 15 = .ok (.iconst 1, 1) := by decide +kernel
theorem dX3_readSensor_16 : decode cX3_readSensor 16 = .ok (.iand, 1) := by decide +kernel
theorem dX3_readSensor_17 : decode cX3_readSensor 17 = .ok (.isub, 1) := by decide +kernel
theorem dX3_readSensor_18 : decode cX3_readSensor 18 = .ok (.putfield 59, 3) := by decide +kernel
theorem dX3_readSensor_21 : decode cX3_readSensor 21 = .ok (.return_, 1) := by decide +kernel
set_option maxRecDepth 20000 in
theorem ggX3_tripAndWear_X0_upTo : GoodIn wsX3_tripAndWear wsX0_upTo := goodIn_r _ [9, 10, 11, 35, 36] (by decide +kernel) (by decide +kernel)
set_option maxRecDepth 20000 in
theorem gX3_tripAndWear_X0_upTo : GoodIn wsX3_tripAndWear (wsV RX3 89 RX0 yX0_upTo wsX0_upTo) := goodIn_app (goodIn_of _ (by decide +kernel)) ggX3_tripAndWear_X0_upTo
theorem dX3_tripAndWear_0 : decode cX3_tripAndWear 0 = .ok (.aload_n 0, 1) := by decide +kernel
theorem dX3_tripAndWear_1 : decode cX3_tripAndWear 1 = .ok (.getfield 55, 3) := by decide +kernel
theorem dX3_tripAndWear_4 : decode cX3_tripAndWear 4 = .ok (.getfield 85, 3) := by decide +kernel
theorem dX3_tripAndWear_7 : decode cX3_tripAndWear 7 = .ok (.bipush 100, 2) := by decide +kernel
theorem dX3_tripAndWear_9 : decode cX3_tripAndWear 9 = .ok (.invokevirtual 89, 3) := by decide +kernel
theorem dX3_tripAndWear_12 : decode cX3_tripAndWear 12 = .ok (.istore_n 1, 1) := by decide +kernel
theorem dX3_tripAndWear_13 : decode cX3_tripAndWear 13 = .ok (.iload_n 1, 1) := by decide +kernel
theorem dX3_tripAndWear_14 : decode cX3_tripAndWear 14 = .ok (.bipush 100, 2) := by decide +kernel
theorem dX3_tripAndWear_16 : decode cX3_tripAndWear 16 = .ok (.if_icmp .lt 11, 3) := by decide +kernel
theorem dX3_tripAndWear_19 : decode cX3_tripAndWear 19 = .ok (.aload_n 0, 1) := by decide +kernel
theorem dX3_tripAndWear_20 : decode cX3_tripAndWear 20 = .ok (.iconst 1, 1) := by decide +kernel
theorem dX3_tripAndWear_21 : decode cX3_tripAndWear 21 = .ok (.putfield 65, 3) := by decide +kernel
theorem dX3_tripAndWear_24 : decode cX3_tripAndWear 24 = .ok (.goto 14, 3) := by decide +kernel
theorem dX3_tripAndWear_27 : decode cX3_tripAndWear 27 = .ok (.iload_n 1, 1) := by decide +kernel
theorem dX3_tripAndWear_28 : decode cX3_tripAndWear 28 = .ok (.bipush 90, 2) := by decide +kernel
theorem dX3_tripAndWear_30 : decode cX3_tripAndWear 30 = .ok (.if_icmp .ge 8, 3) := by decide +kernel
theorem dX3_tripAndWear_33 : decode cX3_tripAndWear 33 = .ok (.aload_n 0, 1) := by decide +kernel
theorem dX3_tripAndWear_34 : decode cX3_tripAndWear 34 = .ok (.iconst 0, 1) := by decide +kernel
theorem dX3_tripAndWear_35 : decode cX3_tripAndWear 35 = .ok (.putfield 65, 3) := by decide +kernel
theorem dX3_tripAndWear_38 : decode cX3_tripAndWear 38 = .ok (.iload_n 1, 1) := by decide +kernel
theorem dX3_tripAndWear_39 : decode cX3_tripAndWear 39 = .ok (.bipush 85, 2) := by decide +kernel
theorem dX3_tripAndWear_41 : decode cX3_tripAndWear 41 = .ok (.if_icmp .lt 13, 3) := by decide +kernel
theorem dX3_tripAndWear_44 : decode cX3_tripAndWear 44 = .ok (.aload_n 0, 1) := by decide +kernel
theorem dX3_tripAndWear_45 : decode cX3_tripAndWear 45 = .ok (.dup, 1) := by decide +kernel
theorem dX3_tripAndWear_46 : decode cX3_tripAndWear 46 = .ok (.getfield 68, 3) := by decide +kernel
theorem dX3_tripAndWear_49 : decode cX3_tripAndWear 49 = .ok (.iconst 1, 1) := by decide +kernel
theorem dX3_tripAndWear_50 : decode cX3_tripAndWear 50 = .ok (.iadd, 1) := by decide +kernel
theorem dX3_tripAndWear_51 : decode cX3_tripAndWear 51 = .ok (.putfield 68, 3) := by decide +kernel
theorem dX3_tripAndWear_54 : decode cX3_tripAndWear 54 = .ok (.return_, 1) := by decide +kernel
theorem dX3_countIdle_0 : decode cX3_countIdle 0 = .ok (.aload_n 0, 1) := by decide +kernel
theorem dX3_countIdle_1 : decode cX3_countIdle 1 = .ok (.dup, 1) := by decide +kernel
theorem dX3_countIdle_2 : decode cX3_countIdle 2 = .ok (.getfield 34, 3) := by decide +kernel
theorem dX3_countIdle_5 : decode cX3_countIdle 5 = .ok (.iconst 1, 1) := by decide +kernel
theorem dX3_countIdle_6 : decode cX3_countIdle 6 = .ok (.iadd, 1) := by decide +kernel
theorem dX3_countIdle_7 : decode cX3_countIdle 7 = .ok (.putfield 34, 3) := by decide +kernel
theorem dX3_countIdle_10 : decode cX3_countIdle 10 = .ok (.aload_n 0, 1) := by decide +kernel
theorem dX3_countIdle_11 : decode cX3_countIdle 11 = .ok (.getfield 34, 3) := by decide +kernel
theorem dX3_countIdle_14 : decode cX3_countIdle 14 = .ok (.bipush 10, 2) := by decide +kernel
theorem dX3_countIdle_16 : decode cX3_countIdle 16 = .ok (.if_icmp .lt 12, 3) := by decide +kernel
theorem dX3_countIdle_19 : decode cX3_countIdle 19 = .ok (.aload_n 0, 1) := by decide +kernel
theorem dX3_countIdle_20 : decode cX3_countIdle 20 = .ok (.bipush 100, 2) := by decide +kernel
theorem dX3_countIdle_22 : decode cX3_countIdle 22 = .ok (.putfield 31, 3) := by decide +kernel
theorem dX3_countIdle_25 : decode cX3_countIdle 25 = .ok (.goto 26, 3) := by decide +kernel
theorem dX3_countIdle_28 : decode cX3_countIdle 28 = .ok (.aload_n 0, 1) := by decide +kernel
theorem dX3_countIdle_29 : decode cX3_countIdle 29 = .ok (.getfield 34, 3) := by decide +kernel
theorem dX3_countIdle_32 : decode cX3_countIdle 32 = .ok (.iconst 3, 1) := by decide +kernel
theorem dX3_countIdle_33 : decode cX3_countIdle 33 = .ok (.if_icmp .lt 18, 3) := by decide +kernel
theorem dX3_countIdle_36 : decode cX3_countIdle 36 = .ok (.aload_n 0, 1) := by decide +kernel
theorem dX3_countIdle_37 : decode cX3_countIdle 37 = .ok (.getfield 31, 3) := by decide +kernel
theorem dX3_countIdle_40 : decode cX3_countIdle 40 = .ok (.bipush 97, 2) := by decide +kernel
theorem dX3_countIdle_42 : decode cX3_countIdle 42 = .ok (.if_icmp .ne 9, 3) := by decide +kernel
theorem dX3_countIdle_45 : decode cX3_countIdle 45 = .ok (.aload_n 0, 1) := by decide +kernel
theorem dX3_countIdle_46 : decode cX3_countIdle 46 = .ok (.bipush 108, 2) := by decide +kernel
theorem dX3_countIdle_48 : decode cX3_countIdle 48 = .ok (.putfield 31, 3) := by decide +kernel
theorem dX3_countIdle_51 : decode cX3_countIdle 51 = .ok (.return_, 1) := by decide +kernel
theorem dX3_beginToWake_0 : decode cX3_beginToWake 0 = .ok (.aload_n 0, 1) := by decide +kernel
theorem dX3_beginToWake_1 : decode cX3_beginToWake 1 = .ok (.aload_n 0, 1) := by decide +kernel
theorem dX3_beginToWake_2 : decode cX3_beginToWake 2 = .ok (.getfield 31, 3) := by decide +kernel
theorem dX3_beginToWake_5 : decode cX3_beginToWake 5 = .ok (.bipush 100, 2) := by decide +kernel
theorem dX3_beginToWake_7 : decode cX3_beginToWake 7 = .ok (.if_icmp .ne 7, 3) := by decide +kernel
theorem dX3_beginToWake_10 : decode cX3_beginToWake 10 = .ok (.iconst 1, 1) := by decide +kernel
theorem dX3_beginToWake_11 : decode cX3_beginToWake 11 = .ok (.goto 4, 3) := by decide +kernel
theorem dX3_beginToWake_14 : decode cX3_beginToWake 14 = .ok (.iconst 0, 1) := by decide +kernel
theorem dX3_beginToWake_15 : decode cX3_beginToWake 15 = .ok (.putfield 40, 3) := by decide +kernel
theorem dX3_beginToWake_18 : decode cX3_beginToWake 18 = .ok (.aload_n 0, 1) := by decide +kernel
theorem dX3_beginToWake_19 : decode cX3_beginToWake 19 = .ok (.aload_n 0, 1) := by decide +kernel
theorem dX3_beginToWake_20 : decode cX3_beginToWake 20 = .ok (.getfield 40, 3) := by decide +kernel
theorem dX3_beginToWake_23 : decode cX3_beginToWake 23 = .ok (.ifCond .eq 7, 3) := by decide +kernel
theorem dX3_beginToWake_26 : decode cX3_beginToWake 26 = .ok (.iconst 4, 1) := by decide +kernel
theorem dX3_beginToWake_27 : decode cX3_beginToWake 27 = .ok (.goto 4, 3) := by decide +kernel
theorem dX3_beginToWake_30 : decode cX3_beginToWake 30 = .ok (.iconst 1, 1) := by decide +kernel
theorem dX3_beginToWake_31 : decode cX3_beginToWake 31 = .ok (.putfield 37, 3) := by decide +kernel
theorem dX3_beginToWake_34 : decode cX3_beginToWake 34 = .ok (.aload_n 0, 1) := by decide +kernel
theorem dX3_beginToWake_35 : decode cX3_beginToWake 35 = .ok (.bipush 119, 2) := by decide +kernel
theorem dX3_beginToWake_37 : decode cX3_beginToWake 37 = .ok (.putfield 31, 3) := by decide +kernel
theorem dX3_beginToWake_40 : decode cX3_beginToWake 40 = .ok (.return_, 1) := by decide +kernel
set_option maxRecDepth 20000 in
theorem ggX3_wish_X3_greatestSpeed : GoodIn wsX3_wish wsX3_greatestSpeed := goodIn_r _ [17, 18, 19, 20, 21, 22, 23, 24, 25, 26, 27, 28, 29, 30, 31, 32, 33, 34, 35, 36, 37, 38] (by decide +kernel) (by decide +kernel)
set_option maxRecDepth 20000 in
theorem gX3_wish_X3_greatestSpeed : GoodIn wsX3_wish (wsV RX3 99 RX3 yX3_greatestSpeed wsX3_greatestSpeed) := goodIn_app (goodIn_of _ (by decide +kernel)) ggX3_wish_X3_greatestSpeed
theorem dX3_wish_0 : decode cX3_wish 0 = .ok (.aload_n 0, 1) := by decide +kernel
theorem dX3_wish_1 : decode cX3_wish 1 = .ok (.getfield 15, 3) := by decide +kernel
theorem dX3_wish_4 : decode cX3_wish 4 = .ok (.istore_n 2, 1) := by decide +kernel
theorem dX3_wish_5 : decode cX3_wish 5 = .ok (.aload_n 0, 1) := by decide +kernel
theorem dX3_wish_6 : decode cX3_wish 6 = .ok (.getfield 9, 3) := by decide +kernel
theorem dX3_wish_9 : decode cX3_wish 9 = .ok (.bipush 108, 2) := by decide +kernel
theorem dX3_wish_11 : decode cX3_wish 11 = .ok (.if_icmp .ne 29, 3) := by decide +kernel
theorem dX3_wish_14 : decode cX3_wish 14 = .ok (.aload_n 0, 1) := by decide +kernel
theorem dX3_wish_15 : decode cX3_wish 15 = .ok (.getfield 47, 3) := by decide +kernel
theorem dX3_wish_18 : decode cX3_wish 18 = .ok (.ifCond .eq 12, 3) := by decide +kernel
theorem dX3_wish_21 : decode cX3_wish 21 = .ok (.aload_n 0, 1) := by decide +kernel
theorem dX3_wish_22 : decode cX3_wish 22 = .ok (.getfield 25, 3) := by decide +kernel
theorem dX3_wish_25 : decode cX3_wish 25 = .ok (.iconst 1, 1) := by decide +kernel
theorem dX3_wish_26 : decode cX3_wish 26 = .ok (.iadd, 1) := by decide +kernel
theorem dX3_wish_27 : decode cX3_wish 27 = .ok (.goto 9, 3) := by decide +kernel
theorem dX3_wish_30 : decode cX3_wish 30 = .ok (.aload_n 0, 1) := by decide +kernel
theorem dX3_wish_31 : decode cX3_wish 31 = .ok (.getfield 25, 3) := by decide +kernel
theorem dX3_wish_34 : decode cX3_wish 34 = .ok (.iconst 1, 1) := by decide +kernel
theorem dX3_wish_35 : decode cX3_wish 35 = .ok (.isub, 1) := by decide +kernel
theorem dX3_wish_36 : decode cX3_wish 36 = .ok (.istore_n 2, 1) := by decide +kernel
theorem dX3_wish_37 : decode cX3_wish 37 = .ok (.goto 16, 3) := by decide +kernel
theorem dX3_wish_40 : decode cX3_wish 40 = .ok (.aload_n 0, 1) := by decide +kernel
theorem dX3_wish_41 : decode cX3_wish 41 = .ok (.getfield 9, 3) := by decide +kernel
theorem dX3_wish_44 : decode cX3_wish 44 = .ok (.bipush 119, 2) := by decide +kernel
theorem dX3_wish_46 : decode cX3_wish 46 = .ok (.if_icmp .ne 7, 3) := by decide +kernel
theorem dX3_wish_49 : decode cX3_wish 49 = .ok (.iconst 3, 1) := by decide +kernel
theorem dX3_wish_50 : decode cX3_wish 50 = .ok (.iload_n 1, 1) := by decide +kernel
theorem dX3_wish_51 : decode cX3_wish 51 = .ok (.imul, 1) := by decide +kernel
theorem dX3_wish_52 : decode cX3_wish 52 = .ok (.istore_n 2, 1) := by decide +kernel
theorem dX3_wish_53 : decode cX3_wish 53 = .ok (.aload_n 0, 1) := by decide +kernel
theorem dX3_wish_54 : decode cX3_wish 54 = .ok (.iconst 0, 1) := by decide +kernel
theorem dX3_wish_55 : decode cX3_wish 55 = .ok (.aload_n 0, 1) := by decide +kernel
theorem dX3_wish_56 : decode cX3_wish 56 = .ok (.invokevirtual 99, 3) := by decide +kernel
theorem dX3_wish_59 : decode cX3_wish 59 = .ok (.iload_n 2, 1) := by decide +kernel
theorem dX3_wish_60 : decode cX3_wish 60 = .ok (.invokestatic 102, 3) := by decide +kernel
theorem dX3_wish_63 : decode cX3_wish 63 = .ok (.invokestatic 108, 3) := by decide +kernel
theorem dX3_wish_66 : decode cX3_wish 66 = .ok (.putfield 19, 3) := by decide +kernel
theorem dX3_wish_69 : decode cX3_wish 69 = .ok (.return_, 1) := by decide +kernel
theorem dX3_limit_0 : decode cX3_limit 0 = .ok (.iload_n 1, 1) := by decide +kernel
theorem dX3_limit_1 : decode cX3_limit 1 = .ok (.aload_n 0, 1) := by decide +kernel
theorem dX3_limit_2 : decode cX3_limit 2 = .ok (.getfield 22, 3) := by decide +kernel
theorem dX3_limit_5 : decode cX3_limit 5 = .ok (.if_icmp .ge 13, 3) := by decide +kernel
theorem dX3_limit_8 : decode cX3_limit 8 = .ok (.aload_n 0, 1) := by decide +kernel
theorem dX3_limit_9 : decode cX3_limit 9 = .ok (.iload_n 1, 1) := by decide +kernel
theorem dX3_limit_10 : decode cX3_limit 10 = .ok (.putfield 22, 3) := by decide +kernel
theorem dX3_limit_13 : decode cX3_limit 13 = .ok (.aload_n 0, 1) := by decide +kernel
theorem dX3_limit_14 : decode cX3_limit 14 = .ok (.iload_n 2, 1) := by decide +kernel
theorem dX3_limit_15 : decode cX3_limit 15 = .ok (.putfield 28, 3) := by decide +kernel
theorem dX3_limit_18 : decode cX3_limit 18 = .ok (.return_, 1) := by decide +kernel
set_option maxRecDepth 20000 in
theorem ggX3_setSpeed_X3_voltsFor : GoodIn wsX3_setSpeed wsX3_voltsFor := goodIn_r _ [9, 10, 11, 12, 13, 14, 15, 16, 17, 18, 19, 20, 21, 8, 22, 23, 24, 25, 26, 27, 28, 29, 30, 31, 32, 33, 34, 35, 36, 37, 38, 39, 40, 41, 42, 43, 46, 47, 48, 49, 50] (by decide +kernel) (by decide +kernel)
set_option maxRecDepth 20000 in
theorem gX3_setSpeed_X3_voltsFor : GoodIn wsX3_setSpeed (wsV RX3 111 RX3 yX3_voltsFor wsX3_voltsFor) := goodIn_app (goodIn_of _ (by decide +kernel)) ggX3_setSpeed_X3_voltsFor
theorem dX3_setSpeed_0 : decode cX3_setSpeed 0 = .ok (.aload_n 0, 1) := by decide +kernel
theorem dX3_setSpeed_1 : decode cX3_setSpeed 1 = .ok (.aload_n 0, 1) := by decide +kernel
theorem dX3_setSpeed_2 : decode cX3_setSpeed 2 = .ok (.getfield 22, 3) := by decide +kernel
theorem dX3_setSpeed_5 : decode cX3_setSpeed 5 = .ok (.putfield 25, 3) := by decide +kernel
theorem dX3_setSpeed_8 : decode cX3_setSpeed 8 = .ok (.aload_n 0, 1) := by decide +kernel
theorem dX3_setSpeed_9 : decode cX3_setSpeed 9 = .ok (.getfield 25, 3) := by decide +kernel
theorem dX3_setSpeed_12 : decode cX3_setSpeed 12 = .ok (.ifCond .le 34, 3) := by decide +kernel
theorem dX3_setSpeed_15 : decode cX3_setSpeed 15 = .ok (.aload_n 0, 1) := by decide +kernel
theorem dX3_setSpeed_16 : decode cX3_setSpeed 16 = .ok (.aload_n 0, 1) := by decide +kernel
theorem dX3_setSpeed_17 : decode cX3_setSpeed 17 = .ok (.getfield 25, 3) := by decide +kernel
theorem dX3_setSpeed_20 : decode cX3_setSpeed 20 = .ok (.invokevirtual 111, 3) := by decide +kernel
theorem dX3_setSpeed_23 : decode cX3_setSpeed 23 = .ok (.aload_n 0, 1) := by decide +kernel
theorem dX3_setSpeed_24 : decode cX3_setSpeed 24 = .ok (.getfield 74, 3) := by decide +kernel
theorem dX3_setSpeed_27 : decode cX3_setSpeed 27 = .ok (.getfield 114, 3) := by decide +kernel
theorem dX3_setSpeed_30 : decode cX3_setSpeed 30 = .ok (.if_icmp .le 16, 3) := by decide +kernel
theorem dX3_setSpeed_33 : decode cX3_setSpeed 33 = .ok (.aload_n 0, 1) := by decide +kernel
theorem dX3_setSpeed_34 : decode cX3_setSpeed 34 = .ok (.dup, 1) := by decide +kernel
theorem dX3_setSpeed_35 : decode cX3_setSpeed 35 = .ok (.getfield 25, 3) := by decide +kernel
theorem dX3_setSpeed_38 : decode cX3_setSpeed 38 = .ok (.iconst 1, 1) := by decide +kernel
theorem dX3_setSpeed_39 : decode cX3_setSpeed 39 = .ok (.isub, 1) := by decide +kernel
theorem dX3_setSpeed_40 : decode cX3_setSpeed 40 = .ok (.putfield 25, 3) := by decide +kernel
theorem dX3_setSpeed_43 : decode cX3_setSpeed 43 = .ok (.goto (-35), 3) := by decide +kernel
theorem dX3_setSpeed_46 : decode cX3_setSpeed 46 = .ok (.return_, 1) := by decide +kernel
theorem dX3_powerOfSpeed_0 : decode cX3_powerOfSpeed 0 = .ok (.aload_n 0, 1) := by decide +kernel
theorem dX3_powerOfSpeed_1 : decode cX3_powerOfSpeed 1 = .ok (.getfield 25, 3) := by decide +kernel
theorem dX3_powerOfSpeed_4 : decode cX3_powerOfSpeed 4 = .ok (.aload_n 0, 1) := by decide +kernel
theorem dX3_powerOfSpeed_5 : decode cX3_powerOfSpeed 5 = .ok (.getfield 74, 3) := by decide +kernel
theorem dX3_powerOfSpeed_8 : decode cX3_powerOfSpeed 8 = .ok (.getfield 114, 3) := by decide +kernel
theorem dX3_powerOfSpeed_11 : decode cX3_powerOfSpeed 11 = .ok (.imul, 1) := by decide +kernel
theorem dX3_powerOfSpeed_12 : decode cX3_powerOfSpeed 12 = .ok (.aload_n 0, 1) := by decide +kernel
theorem dX3_powerOfSpeed_13 : decode cX3_powerOfSpeed 13 = .ok (.getfield 44, 3) := by decide +kernel
theorem dX3_powerOfSpeed_16 : decode cX3_powerOfSpeed 16 = .ok (.ifCond .eq 8, 3) := by decide +kernel
theorem dX3_powerOfSpeed_19 : decode cX3_powerOfSpeed 19 = .ok (.bipush 50, 2) := by decide +kernel
theorem dX3_powerOfSpeed_21 : decode cX3_powerOfSpeed 21 = .ok (.goto 6, 3) := by decide +kernel
theorem dX3_powerOfSpeed_24 : decode cX3_powerOfSpeed 24 = .ok (.sipush 200, 3) := by decide +kernel
theorem dX3_powerOfSpeed_27 : decode cX3_powerOfSpeed 27 = .ok (.idiv, 1) := by decide +kernel
theorem dX3_powerOfSpeed_28 : decode cX3_powerOfSpeed 28 = .ok (.ireturn, 1) := by decide +kernel
set_option maxRecDepth 20000 in
theorem ggX3_tellLeak_X0_become : GoodIn wsX3_tellLeak wsX0_become := goodIn_r _ [10, 11, 12, 13, 14, 15, 9, 16, 17, 18, 19, 20, 21, 22, 23, 24, 25, 26, 27, 66, 67] (by decide +kernel) (by decide +kernel)
set_option maxRecDepth 20000 in
theorem gX3_tellLeak_X0_become : GoodIn wsX3_tellLeak (wsV RX3 119 RX0 yX0_become wsX0_become) := goodIn_app (goodIn_of _ (by decide +kernel)) ggX3_tellLeak_X0_become
set_option maxRecDepth 20000 in
theorem ggX3_tellLeak_X0_becomeProduct : GoodIn wsX3_tellLeak wsX0_becomeProduct := goodIn_r _ [31, 11, 32, 12, 13, 14, 15, 9, 16, 17, 18, 19, 20, 21, 22, 23, 33, 34, 35, 36, 24, 25, 26, 27, 66, 67] (by decide +kernel) (by decide +kernel)
set_option maxRecDepth 20000 in
theorem gX3_tellLeak_X0_becomeProduct : GoodIn wsX3_tellLeak (wsV RX3 123 RX0 yX0_becomeProduct wsX0_becomeProduct) := goodIn_app (goodIn_of _ (by decide +kernel)) ggX3_tellLeak_X0_becomeProduct
set_option maxRecDepth 20000 in
theorem ggX3_tellLeak_X0_becomeQuotient : GoodIn wsX3_tellLeak wsX0_becomeQuotient := goodIn_r _ [40, 12, 11, 13, 14, 15, 9, 16, 17, 18, 19, 20, 21, 22, 23, 24, 25, 26, 27, 66, 67] (by decide +kernel) (by decide +kernel)
set_option maxRecDepth 20000 in
theorem gX3_tellLeak_X0_becomeQuotient : GoodIn wsX3_tellLeak (wsV RX3 127 RX0 yX0_becomeQuotient wsX0_becomeQuotient) := goodIn_app (goodIn_of _ (by decide +kernel)) ggX3_tellLeak_X0_becomeQuotient
theorem dX3_tellLeak_0 : decode cX3_tellLeak 0 = .ok (.aload_n 0, 1) := by decide +kernel
theorem dX3_tellLeak_1 : decode cX3_tellLeak 1 = .ok (.getfield 31, 3) := by decide +kernel
theorem dX3_tellLeak_4 : decode cX3_tellLeak 4 = .ok (.bipush 100, 2) := by decide +kernel
theorem dX3_tellLeak_6 : decode cX3_tellLeak 6 = .ok (.if_icmp .ne 9, 3) := by decide +kernel
theorem dX3_tellLeak_9 : decode cX3_tellLeak 9 = .ok (.aload_n 1, 1) := by decide +kernel
theorem dX3_tellLeak_10 : decode cX3_tellLeak 10 = .ok (.iconst 0, 1) := by decide +kernel
theorem dX3_tellLeak_11 : decode cX3_tellLeak 11 = .ok (.invokevirtual 119, 3) := by decide +kernel
theorem dX3_tellLeak_14 : decode cX3_tellLeak 14 = .ok (.return_, 1) := by decide +kernel
theorem dX3_tellLeak_15 : decode cX3_tellLeak 15 = .ok (.aload_n 1, 1) := by decide +kernel
theorem dX3_tellLeak_16 : decode cX3_tellLeak 16 = .ok (.aload_n 0, 1) := by decide +kernel
theorem dX3_tellLeak_17 : decode cX3_tellLeak 17 = .ok (.getfield 55, 3) := by decide +kernel
theorem dX3_tellLeak_20 : decode cX3_tellLeak 20 = .ok (.getfield 85, 3) := by decide +kernel
theorem dX3_tellLeak_23 : decode cX3_tellLeak 23 = .ok (.aload_n 0, 1) := by decide +kernel
theorem dX3_tellLeak_24 : decode cX3_tellLeak 24 = .ok (.getfield 74, 3) := by decide +kernel
theorem dX3_tellLeak_27 : decode cX3_tellLeak 27 = .ok (.getfield 114, 3) := by decide +kernel
theorem dX3_tellLeak_30 : decode cX3_tellLeak 30 = .ok (.invokevirtual 123, 3) := by decide +kernel
theorem dX3_tellLeak_33 : decode cX3_tellLeak 33 = .ok (.aload_n 1, 1) := by decide +kernel
theorem dX3_tellLeak_34 : decode cX3_tellLeak 34 = .ok (.aload_n 1, 1) := by decide +kernel
theorem dX3_tellLeak_35 : decode cX3_tellLeak 35 = .ok (.sipush 5000, 3) := by decide +kernel
theorem dX3_tellLeak_38 : decode cX3_tellLeak 38 = .ok (.invokevirtual 127, 3) := by decide +kernel
theorem dX3_tellLeak_41 : decode cX3_tellLeak 41 = .ok (.aload_n 0, 1) := by decide +kernel
theorem dX3_tellLeak_42 : decode cX3_tellLeak 42 = .ok (.getfield 31, 3) := by decide +kernel
theorem dX3_tellLeak_45 : decode cX3_tellLeak 45 = .ok (.bipush 108, 2) := by decide +kernel
theorem dX3_tellLeak_47 : decode cX3_tellLeak 47 = .ok (.if_icmp .ne 9, 3) := by decide +kernel
theorem dX3_tellLeak_50 : decode cX3_tellLeak 50 = .ok (.aload_n 1, 1) := by decide +kernel
theorem dX3_tellLeak_51 : decode cX3_tellLeak 51 = .ok (.aload_n 1, 1) := by decide +kernel
theorem dX3_tellLeak_52 : decode cX3_tellLeak 52 = .ok (.iconst 2, 1) := by decide +kernel
theorem dX3_tellLeak_53 : decode cX3_tellLeak 53 = .ok (.invokevirtual 127, 3) := by decide +kernel
theorem dX3_tellLeak_56 : decode cX3_tellLeak 56 = .ok (.return_, 1) := by decide +kernel
theorem dX4_init_0 : decode cX4_init 0 = .ok (.aload_n 0, 1) := by decide +kernel
theorem dX4_init_1 : decode cX4_init 1 = .ok (.invokespecial 3, 3) := by decide +kernel
theorem dX4_init_4 : decode cX4_init 4 = .ok (.aload_n 0, 1) := by decide +kernel
theorem dX4_init_5 : decode cX4_init 5 = .ok (.sipush 500, 3) := by decide +kernel
theorem dX4_init_8 : decode cX4_init 8 = .ok (.putfield 9, 3) := by decide +kernel
theorem dX4_init_11 : decode cX4_init 11 = .ok (.aload_n 0, 1) := by decide +kernel
theorem dX4_init_12 : decode cX4_init 12 = .ok (.sipush 500, 3) := by decide +kernel
theorem dX4_init_15 : decode cX4_init 15 = .ok (.putfield 15, 3) := by decide +kernel
theorem dX4_init_18 : decode cX4_init 18 = .ok (.return_, 1) := by decide +kernel
theorem dX4_goTowardsTarget_0 : decode cX4_goTowardsTarget 0 = .ok (.aload_n 0, 1) := by decide +kernel
theorem dX4_goTowardsTarget_1 : decode cX4_goTowardsTarget 1 = .ok (.getfield 9, 3) := by decide +kernel
theorem dX4_goTowardsTarget_4 : decode cX4_goTowardsTarget 4 = .ok (.bipush 20, 2) := by decide +kernel
theorem dX4_goTowardsTarget_6 : decode cX4_goTowardsTarget 6 = .ok (.iadd, 1) := by decide +kernel
theorem dX4_goTowardsTarget_7 : decode cX4_goTowardsTarget 7 = .ok (.istore_n 1, 1) := by decide +kernel
theorem dX4_goTowardsTarget_8 : decode cX4_goTowardsTarget 8 = .ok (.aload_n 0, 1) := by decide +kernel
theorem dX4_goTowardsTarget_9 : decode cX4_goTowardsTarget 9 = .ok (.getfield 9, 3) := by decide +kernel
theorem dX4_goTowardsTarget_12 : decode cX4_goTowardsTarget 12 = .ok (.bipush 20, 2) := by decide +kernel
theorem dX4_goTowardsTarget_14 : decode cX4_goTowardsTarget 14 = .ok (.isub, 1) := by decide +kernel
theorem dX4_goTowardsTarget_15 : decode cX4_goTowardsTarget 15 = .ok (.istore_n 2, 1) := by decide +kernel
theorem dX4_goTowardsTarget_16 : decode cX4_goTowardsTarget 16 = .ok (.aload_n 0, 1) := by decide +kernel
theorem dX4_goTowardsTarget_17 : decode cX4_goTowardsTarget 17 = .ok (.iload_n 2, 1) := by decide +kernel
theorem dX4_goTowardsTarget_18 : decode cX4_goTowardsTarget 18 = .ok (.iload_n 1, 1) := by decide +kernel
theorem dX4_goTowardsTarget_19 : decode cX4_goTowardsTarget 19 = .ok (.aload_n 0, 1) := by decide +kernel
theorem dX4_goTowardsTarget_20 : decode cX4_goTowardsTarget 20 = .ok (.getfield 15, 3) := by decide +kernel
theorem dX4_goTowardsTarget_23 : decode cX4_goTowardsTarget 23 = .ok (.invokestatic 18, 3) := by decide +kernel
theorem dX4_goTowardsTarget_26 : decode cX4_goTowardsTarget 26 = .ok (.invokestatic 24, 3) := by decide +kernel
theorem dX4_goTowardsTarget_29 : decode cX4_goTowardsTarget 29 = .ok (.putfield 9, 3) := by decide +kernel
theorem dX4_goTowardsTarget_32 : decode cX4_goTowardsTarget 32 = .ok (.return_, 1) := by decide +kernel
theorem dX5_init_0 : decode cX5_init 0 = .ok (.aload_n 0, 1) := by decide +kernel
theorem dX5_init_1 : decode cX5_init 1 = .ok (.invokespecial 3, 3) := by decide +kernel
theorem dX5_init_4 : decode cX5_init 4 = .ok (.aload_n 0, 1) := by decide +kernel
theorem dX5_init_5 : decode cX5_init 5 = .ok (.iconst 0, 1) := by decide +kernel
theorem dX5_init_6 : decode cX5_init 6 = .ok (.putfield 9, 3) := by decide +kernel
theorem dX5_init_9 : decode cX5_init 9 = .ok (.aload_n 0, 1) := by decide +kernel
theorem dX5_init_10 : decode cX5_init 10 = .ok (.iconst 0, 1) := by decide +kernel
theorem dX5_init_11 : decode cX5_init 11 = .ok (.putfield 15, 3) := by decide +kernel
theorem dX5_init_14 : decode cX5_init 14 = .ok (.aload_n 0, 1) := by decide +kernel
theorem dX5_init_15 : decode cX5_init 15 = .ok (.iconst 0, 1) := by decide +kernel
theorem dX5_init_16 : decode cX5_init 16 = .ok (.putfield 18, 3) := by decide +kernel
theorem dX5_init_19 : decode cX5_init 19 = .ok (.aload_n 0, 1) := by decide +kernel
theorem dX5_init_20 : decode cX5_init 20 = .ok (.iconst 0, 1) := by decide +kernel
theorem dX5_init_21 : decode cX5_init 21 = .ok (.putfield 21, 3) := by decide +kernel
theorem dX5_init_24 : decode cX5_init 24 = .ok (.aload_n 0, 1) := by decide +kernel
theorem dX5_init_25 : decode cX5_init 25 = .ok (.iconst 0, 1) := by decide +kernel
theorem dX5_init_26 : decode cX5_init 26 = .ok (.putfield 24, 3) := by decide +kernel
theorem dX5_init_29 : decode cX5_init 29 = .ok (.aload_n 0, 1) := by decide +kernel
theorem dX5_init_30 : decode cX5_init 30 = .ok (.iconst 0, 1) := by decide +kernel
theorem dX5_init_31 : decode cX5_init 31 = .ok (.putfield 27, 3) := by decide +kernel
theorem dX5_init_34 : decode cX5_init 34 = .ok (.aload_n 0, 1) := by decide +kernel
theorem dX5_init_35 : decode cX5_init 35 = .ok (.bipush 45, 2) := by decide +kernel
theorem dX5_init_37 : decode cX5_init 37 = .ok (.putfield 30, 3) := by decide +kernel
theorem dX5_init_40 : decode cX5_init 40 = .ok (.return_, 1) := by decide +kernel
theorem dX5_take_0 : decode cX5_take 0 = .ok (.aload_n 0, 1) := by decide +kernel
theorem dX5_take_1 : decode cX5_take 1 = .ok (.dup, 1) := by decide +kernel
theorem dX5_take_2 : decode cX5_take 2 = .ok (.getfield 9, 3) := by decide +kernel
theorem dX5_take_5 : decode cX5_take 5 = .ok (.iconst 1, 1) := by decide +kernel
theorem dX5_take_6 : decode cX5_take 6 = .ok (.iadd, 1) := by decide +kernel
theorem dX5_take_7 : decode cX5_take 7 = .ok (.putfield 9, 3) := by decide +kernel
theorem dX5_take_10 : decode cX5_take 10 = .ok (.aload_n 0, 1) := by decide +kernel
theorem dX5_take_11 : decode cX5_take 11 = .ok (.iload_n 1, 1) := by decide +kernel
theorem dX5_take_12 : decode cX5_take 12 = .ok (.putfield 15, 3) := by decide +kernel
theorem dX5_take_15 : decode cX5_take 15 = .ok (.aload_n 0, 1) := by decide +kernel
theorem dX5_take_16 : decode cX5_take 16 = .ok (.iload_n 1, 1) := by decide +kernel
theorem dX5_take_17 : decode cX5_take 17 = .ok (.putfield 24, 3) := by decide +kernel
theorem dX5_take_20 : decode cX5_take 20 = .ok (.aload_n 0, 1) := by decide +kernel
theorem dX5_take_21 : decode cX5_take 21 = .ok (.iload_n 2, 1) := by decide +kernel
theorem dX5_take_22 : decode cX5_take 22 = .ok (.putfield 27, 3) := by decide +kernel
theorem dX5_take_25 : decode cX5_take 25 = .ok (.return_, 1) := by decide +kernel
theorem dX5_beginToHold_0 : decode cX5_beginToHold 0 = .ok (.aload_n 0, 1) := by decide +kernel
theorem dX5_beginToHold_1 : decode cX5_beginToHold 1 = .ok (.getfield 24, 3) := by decide +kernel
theorem dX5_beginToHold_4 : decode cX5_beginToHold 4 = .ok (.ifCond .le 24, 3) := by decide +kernel
theorem dX5_beginToHold_7 : decode cX5_beginToHold 7 = .ok (.aload_n 0, 1) := by decide +kernel
theorem dX5_beginToHold_8 : decode cX5_beginToHold 8 = .ok (.aload_n 0, 1) := by decide +kernel
theorem dX5_beginToHold_9 : decode cX5_beginToHold 9 = .ok (.getfield 24, 3) := by decide +kernel
theorem dX5_beginToHold_12 : decode cX5_beginToHold 12 = .ok (.putfield 18, 3) := by decide +kernel
theorem dX5_beginToHold_15 : decode cX5_beginToHold 15 = .ok (.aload_n 0, 1) := by decide +kernel
theorem dX5_beginToHold_16 : decode cX5_beginToHold 16 = .ok (.aload_n 0, 1) := by decide +kernel
theorem dX5_beginToHold_17 : decode cX5_beginToHold 17 = .ok (.getfield 27, 3) := by decide +kernel
theorem dX5_beginToHold_20 : decode cX5_beginToHold 20 = .ok (.putfield 21, 3) := by decide +kernel
theorem dX5_beginToHold_23 : decode cX5_beginToHold 23 = .ok (.aload_n 0, 1) := by decide +kernel
theorem dX5_beginToHold_24 : decode cX5_beginToHold 24 = .ok (.iconst 0, 1) := by decide +kernel
theorem dX5_beginToHold_25 : decode cX5_beginToHold 25 = .ok (.putfield 24, 3) := by decide +kernel
theorem dX5_beginToHold_28 : decode cX5_beginToHold 28 = .ok (.return_, 1) := by decide +kernel
theorem dX5_dropBoth_0 : decode cX5_dropBoth 0 = .ok (.aload_n 0, 1) := by decide +kernel
theorem dX5_dropBoth_1 : decode cX5_dropBoth 1 = .ok (.getfield 18, 3) := by decide +kernel
theorem dX5_dropBoth_4 : decode cX5_dropBoth 4 = .ok (.ifCond .gt 10, 3) := by decide +kernel
theorem dX5_dropBoth_7 : decode cX5_dropBoth 7 = .ok (.aload_n 0, 1) := by decide +kernel
theorem dX5_dropBoth_8 : decode cX5_dropBoth 8 = .ok (.getfield 24, 3) := by decide +kernel
theorem dX5_dropBoth_11 : decode cX5_dropBoth 11 = .ok (.ifCond .le 7, 3) := by decide +kernel
theorem dX5_dropBoth_14 : decode cX5_dropBoth 14 = .ok (.iconst 1, 1) := by decide +kernel
theorem dX5_dropBoth_15 : decode cX5_dropBoth 15 = .ok (.goto 4, 3) := by decide +kernel
theorem dX5_dropBoth_18 : decode cX5_dropBoth 18 = .ok (.iconst 0, 1) := by decide +kernel
theorem dX5_dropBoth_19 : decode cX5_dropBoth 19 = .ok (.istore_n 1, 1) := by decide +kernel
theorem dX5_dropBoth_20 : decode cX5_dropBoth 20 = .ok (.aload_n 0, 1) := by decide +kernel
theorem dX5_dropBoth_21 : decode cX5_dropBoth 21 = .ok (.iconst 0, 1) := by decide +kernel
theorem dX5_dropBoth_22 : decode cX5_dropBoth 22 = .ok (.putfield 18, 3) := by decide +kernel
theorem dX5_dropBoth_25 : decode cX5_dropBoth 25 = .ok (.aload_n 0, 1) := by decide +kernel
theorem dX5_dropBoth_26 : decode cX5_dropBoth 26 = .ok (.iconst 0, 1) := by decide +kernel
theorem dX5_dropBoth_27 : decode cX5_dropBoth 27 = .ok (.putfield 24, 3) := by decide +kernel
theorem dX5_dropBoth_30 : decode cX5_dropBoth 30 = .ok (.iload_n 1, 1) := by decide +kernel
theorem dX5_dropBoth_31 : decode cX5_dropBoth 31 = .ok (.ireturn, 1) := by decide +kernel
theorem dX6_init_0 : decode cX6_init 0 = .ok (.aload_n 0, 1) := by decide +kernel
theorem dX6_init_1 : decode cX6_init 1 = .ok (.invokespecial 3, 3) := by decide +kernel
theorem dX6_init_4 : decode cX6_init 4 = .ok (.aload_n 0, 1) := by decide +kernel
theorem dX6_init_5 : decode cX6_init 5 = .ok (.sipush 200, 3) := by decide +kernel
theorem dX6_init_8 : decode cX6_init 8 = .ok (.putfield 9, 3) := by decide +kernel
theorem dX6_init_11 : decode cX6_init 11 = .ok (.aload_n 0, 1) := by decide +kernel
theorem dX6_init_12 : decode cX6_init 12 = .ok (.sipush 5000, 3) := by decide +kernel
theorem dX6_init_15 : decode cX6_init 15 = .ok (.putfield 15, 3) := by decide +kernel
theorem dX6_init_18 : decode cX6_init 18 = .ok (.aload_n 0, 1) := by decide +kernel
theorem dX6_init_19 : decode cX6_init 19 = .ok (.sipush 600, 3) := by decide +kernel
theorem dX6_init_22 : decode cX6_init 22 = .ok (.putfield 18, 3) := by decide +kernel
theorem dX6_init_25 : decode cX6_init 25 = .ok (.aload_n 0, 1) := by decide +kernel
theorem dX6_init_26 : decode cX6_init 26 = .ok (.lconst 0, 1) := by decide +kernel
theorem dX6_init_27 : decode cX6_init 27 = .ok (.putfield 21, 3) := by decide +kernel
theorem dX6_init_30 : decode cX6_init 30 = .ok (.aload_n 0, 1) := by decide +kernel
theorem dX6_init_31 : decode cX6_init 31 = .ok (.lconst 0, 1) := by decide +kernel
theorem dX6_init_32 : decode cX6_init 32 = .ok (.putfield 25, 3) := by decide +kernel
theorem dX6_init_35 : decode cX6_init 35 = .ok (.aload_n 0, 1) := by decide +kernel
theorem dX6_init_36 : decode cX6_init 36 = .ok (.iconst 0, 1) := by decide +kernel
theorem dX6_init_37 : decode cX6_init 37 = .ok (.putfield 28, 3) := by decide +kernel
theorem dX6_init_40 : decode cX6_init 40 = .ok (.aload_n 0, 1) := by decide +kernel
theorem dX6_init_41 : decode cX6_init 41 = .ok (.lconst 0, 1) := by decide +kernel
theorem dX6_init_42 : decode cX6_init 42 = .ok (.putfield 32, 3) := by decide +kernel
theorem dX6_init_45 : decode cX6_init 45 = .ok (.aload_n 0, 1) := by decide +kernel
theorem dX6_init_46 : decode cX6_init 46 = .ok (.lconst 0, 1) := by decide +kernel
theorem dX6_init_47 : decode cX6_init 47 = .ok (.putfield 35, 3) := by decide +kernel
theorem dX6_init_50 : decode cX6_init 50 = .ok (.aload_n 0, 1) := by decide +kernel
theorem dX6_init_51 : decode cX6_init 51 = .ok (.lconst 0, 1) := by decide +kernel
theorem dX6_init_52 : decode cX6_init 52 = .ok (.putfield 38, 3) := by decide +kernel
theorem dX6_init_55 : decode cX6_init 55 = .ok (.aload_n 0, 1) := by decide +kernel
theorem dX6_init_56 : decode cX6_init 56 = .ok (.lconst 0, 1) := by decide +kernel
theorem dX6_init_57 : decode cX6_init 57 = .ok (.putfield 41, 3) := by decide +kernel
theorem dX6_init_60 : decode cX6_init 60 = .ok (.return_, 1) := by decide +kernel
set_option maxRecDepth 20000 in
theorem ggX6_give_X0_upTo : GoodIn wsX6_give wsX0_upTo := goodIn_r _ [22, 23, 24, 39, 40] (by decide +kernel) (by decide +kernel)
set_option maxRecDepth 20000 in
theorem gX6_give_X0_upTo : GoodIn wsX6_give (wsV RX6 44 RX0 yX0_upTo wsX0_upTo) := goodIn_app (goodIn_of _ (by decide +kernel)) ggX6_give_X0_upTo
set_option maxRecDepth 20000 in
theorem ggX6_give_X0_lowBits : GoodIn wsX6_give wsX0_lowBits := goodIn_r _ [28, 24, 39, 40] (by decide +kernel) (by decide +kernel)
set_option maxRecDepth 20000 in
theorem gX6_give_X0_lowBits : GoodIn wsX6_give (wsV RX6 56 RX0 yX0_lowBits wsX0_lowBits) := goodIn_app (goodIn_of _ (by decide +kernel)) ggX6_give_X0_lowBits
theorem dX6_give_0 : decode cX6_give 0 = .ok (.aload_n 1, 1) := by decide +kernel
theorem dX6_give_1 : decode cX6_give 1 = .ok (.sipush 10000, 3) := by decide +kernel
theorem dX6_give_4 : decode cX6_give 4 = .ok (.invokevirtual 44, 3) := by decide +kernel
theorem dX6_give_7 : decode cX6_give 7 = .ok (.istore_n 2, 1) := by decide +kernel
theorem dX6_give_8 : decode cX6_give 8 = .ok (.iload_n 2, 1) := by decide +kernel
theorem dX6_give_9 : decode cX6_give 9 = .ok (.aload_n 0, 1) := by decide +kernel
theorem dX6_give_10 : decode cX6_give 10 = .ok (.getfield 9, 3) := by decide +kernel
theorem dX6_give_13 : decode cX6_give 13 = .ok (.invokestatic 50, 3) := by decide +kernel
theorem dX6_give_16 : decode cX6_give 16 = .ok (.istore_n 3, 1) := by decide +kernel
theorem dX6_give_17 : decode cX6_give 17 = .ok (.iload_n 2, 1) := by decide +kernel
theorem dX6_give_18 : decode cX6_give 18 = .ok (.iload_n 3, 1) := by decide +kernel
theorem dX6_give_19 : decode cX6_give 19 = .ok (.isub, 1) := by decide +kernel
theorem dX6_give_20 : decode cX6_give 20 = .ok (.aload_n 0, 1) := by decide +kernel
theorem dX6_give_21 : decode cX6_give 21 = .ok (.getfield 15, 3) := by decide +kernel
theorem dX6_give_24 : decode cX6_give 24 = .ok (.invokestatic 50, 3) := by decide +kernel
theorem dX6_give_27 : decode cX6_give 27 = .ok (.istore 4, 2) := by decide +kernel
theorem dX6_give_29 : decode cX6_give 29 = .ok (.sipush 5000, 3) := by decide +kernel
theorem dX6_give_32 : decode cX6_give 32 = .ok (.aload_n 0, 1) := by decide +kernel
theorem dX6_give_33 : decode cX6_give 33 = .ok (.getfield 15, 3) := by decide +kernel
theorem dX6_give_36 : decode cX6_give 36 = .ok (.isub, 1) := by decide +kernel
theorem dX6_give_37 : decode cX6_give 37 = .ok (.istore 5, 2) := by decide +kernel
theorem dX6_give_39 : decode cX6_give 39 = .ok (.iload 5, 2) := by decide +kernel
theorem dX6_give_41 : decode cX6_give 41 = .ok (.bipush 30, 2) := by decide +kernel
theorem dX6_give_43 : decode cX6_give 43 = .ok (.aload_n 0, 1) := by decide +kernel
theorem dX6_give_44 : decode cX6_give 44 = .ok (.getfield 9, 3) := by decide +kernel
theorem dX6_give_47 : decode cX6_give 47 = .ok (.iload_n 3, 1) := by decide +kernel
theorem dX6_give_48 : decode cX6_give 48 = .ok (.isub, 1) := by decide +kernel
theorem dX6_give_49 : decode cX6_give 49 = .ok (.invokestatic 50, 3) := by decide +kernel
theorem dX6_give_52 : decode cX6_give 52 = .ok (.invokestatic 50, 3) := by decide +kernel
theorem dX6_give_55 : decode cX6_give 55 = .ok (.istore 6, 2) := by decide +kernel
theorem dX6_give_57 : decode cX6_give 57 = .ok (.aload_n 0, 1) := by decide +kernel
theorem dX6_give_58 : decode cX6_give 58 = .ok (.aload_n 1, 1) := by decide +kernel
theorem dX6_give_59 : decode cX6_give 59 = .ok (.invokevirtual 56, 3) := by decide +kernel
theorem dX6_give_62 : decode cX6_give 62 = .ok (.putfield 21, 3) := by decide +kernel
theorem dX6_give_65 : decode cX6_give 65 = .ok (.aload_n 0, 1) := by decide +kernel
theorem dX6_give_66 : decode cX6_give 66 = .ok (.aload_n 0, 1) := by decide +kernel
theorem dX6_give_67 : decode cX6_give 67 = .ok (.getfield 21, 3) := by decide +kernel
theorem dX6_give_70 : decode cX6_give 70 = .ok (.iload_n 3, 1) := by decide +kernel
theorem dX6_give_71 : decode cX6_give 71 = .ok (.i2l, 1) := by decide +kernel
theorem dX6_give_72 : decode cX6_give 72 = .ok (.lsub, 1) := by decide +kernel
theorem dX6_give_73 : decode cX6_give 73 = .ok (.iload 4, 2) := by decide +kernel
theorem dX6_give_75 : decode cX6_give 75 = .ok (.i2l, 1) := by decide +kernel
theorem dX6_give_76 : decode cX6_give 76 = .ok (.lsub, 1) := by decide +kernel
theorem dX6_give_77 : decode cX6_give 77 = .ok (.putfield 25, 3) := by decide +kernel
theorem dX6_give_80 : decode cX6_give 80 = .ok (.aload_n 0, 1) := by decide +kernel
theorem dX6_give_81 : decode cX6_give 81 = .ok (.iload_n 2, 1) := by decide +kernel
theorem dX6_give_82 : decode cX6_give 82 = .ok (.iload_n 3, 1) := by decide +kernel
theorem dX6_give_83 : decode cX6_give 83 = .ok (.iload 4, 2) := by decide +kernel
theorem dX6_give_85 : decode cX6_give 85 = .ok (.iadd, 1) := by decide +kernel
theorem dX6_give_86 : decode cX6_give 86 = .ok (.if_icmp .le 7, 3) := by decide +kernel
theorem dX6_give_89 : decode cX6_give 89 = .ok (.iconst 1, 1) := by decide +kernel
theorem dX6_give_90 : decode cX6_give 90 = .ok (.goto 4, 3) := by decide +kernel
theorem dX6_give_93 : decode cX6_give 93 = .ok (.iconst 0, 1) := by decide +kernel
theorem dX6_give_94 : decode cX6_give 94 = .ok (.putfield 28, 3) := by decide +kernel
theorem dX6_give_97 : decode cX6_give 97 = .ok (.aload_n 0, 1) := by decide +kernel
theorem dX6_give_98 : decode cX6_give 98 = .ok (.dup, 1) := by decide +kernel
theorem dX6_give_99 : decode cX6_give 99 = .ok (.getfield 15, 3) := by decide +kernel
theorem dX6_give_102 : decode cX6_give 102 = .ok (.iload 6, 2) := by decide +kernel
theorem dX6_give_104 : decode cX6_give 104 = .ok (.iload 4, 2) := by decide +kernel
theorem dX6_give_106 : decode cX6_give 106 = .ok (.isub, 1) := by decide +kernel
theorem dX6_give_107 : decode cX6_give 107 = .ok (.iadd, 1) := by decide +kernel
theorem dX6_give_108 : decode cX6_give 108 = .ok (.putfield 15, 3) := by decide +kernel
theorem dX6_give_111 : decode cX6_give 111 = .ok (.aload_n 0, 1) := by decide +kernel
theorem dX6_give_112 : decode cX6_give 112 = .ok (.dup, 1) := by decide +kernel
theorem dX6_give_113 : decode cX6_give 113 = .ok (.getfield 32, 3) := by decide +kernel
theorem dX6_give_116 : decode cX6_give 116 = .ok (.iload_n 3, 1) := by decide +kernel
theorem dX6_give_117 : decode cX6_give 117 = .ok (.iload 6, 2) := by decide +kernel
theorem dX6_give_119 : decode cX6_give 119 = .ok (.iadd, 1) := by decide +kernel
theorem dX6_give_120 : decode cX6_give 120 = .ok (.i2l, 1) := by decide +kernel
theorem dX6_give_121 : decode cX6_give 121 = .ok (.ladd, 1) := by decide +kernel
theorem dX6_give_122 : decode cX6_give 122 = .ok (.putfield 32, 3) := by decide +kernel
theorem dX6_give_125 : decode cX6_give 125 = .ok (.aload_n 0, 1) := by decide +kernel
theorem dX6_give_126 : decode cX6_give 126 = .ok (.dup, 1) := by decide +kernel
theorem dX6_give_127 : decode cX6_give 127 = .ok (.getfield 35, 3) := by decide +kernel
theorem dX6_give_130 : decode cX6_give 130 = .ok (.iload 4, 2) := by decide +kernel
theorem dX6_give_132 : decode cX6_give 132 = .ok (.iload 6, 2) := by decide +kernel
theorem dX6_give_134 : decode cX6_give 134 = .ok (.isub, 1) := by decide +kernel
theorem dX6_give_135 : decode cX6_give 135 = .ok (.i2l, 1) := by decide +kernel
theorem dX6_give_136 : decode cX6_give 136 = .ok (.ladd, 1) := by decide +kernel
theorem dX6_give_137 : decode cX6_give 137 = .ok (.putfield 35, 3) := by decide +kernel
theorem dX6_give_140 : decode cX6_give 140 = .ok (.aload_n 0, 1) := by decide +kernel
theorem dX6_give_141 : decode cX6_give 141 = .ok (.dup, 1) := by decide +kernel
theorem dX6_give_142 : decode cX6_give 142 = .ok (.getfield 38, 3) := by decide +kernel
theorem dX6_give_145 : decode cX6_give 145 = .ok (.aload_n 0, 1) := by decide +kernel
theorem dX6_give_146 : decode cX6_give 146 = .ok (.getfield 25, 3) := by decide +kernel
theorem dX6_give_149 : decode cX6_give 149 = .ok (.ladd, 1) := by decide +kernel
theorem dX6_give_150 : decode cX6_give 150 = .ok (.putfield 38, 3) := by decide +kernel
theorem dX6_give_153 : decode cX6_give 153 = .ok (.aload_n 0, 1) := by decide +kernel
theorem dX6_give_154 : decode cX6_give 154 = .ok (.dup, 1) := by decide +kernel
theorem dX6_give_155 : decode cX6_give 155 = .ok (.getfield 41, 3) := by decide +kernel
theorem dX6_give_158 : decode cX6_give 158 = .ok (.aload_n 0, 1) := by decide +kernel
theorem dX6_give_159 : decode cX6_give 159 = .ok (.getfield 21, 3) := by decide +kernel
theorem dX6_give_162 : decode cX6_give 162 = .ok (.ladd, 1) := by decide +kernel
theorem dX6_give_163 : decode cX6_give 163 = .ok (.putfield 41, 3) := by decide +kernel
theorem dX6_give_166 : decode cX6_give 166 = .ok (.aload_n 0, 1) := by decide +kernel
theorem dX6_give_167 : decode cX6_give 167 = .ok (.iconst 0, 1) := by decide +kernel
theorem dX6_give_168 : decode cX6_give 168 = .ok (.sipush 600, 3) := by decide +kernel
theorem dX6_give_171 : decode cX6_give 171 = .ok (.aload_n 0, 1) := by decide +kernel
theorem dX6_give_172 : decode cX6_give 172 = .ok (.getfield 18, 3) := by decide +kernel
theorem dX6_give_175 : decode cX6_give 175 = .ok (.bipush 60, 2) := by decide +kernel
theorem dX6_give_177 : decode cX6_give 177 = .ok (.iadd, 1) := by decide +kernel
theorem dX6_give_178 : decode cX6_give 178 = .ok (.iload_n 2, 1) := by decide +kernel
theorem dX6_give_179 : decode cX6_give 179 = .ok (.isub, 1) := by decide +kernel
theorem dX6_give_180 : decode cX6_give 180 = .ok (.invokestatic 50, 3) := by decide +kernel
theorem dX6_give_183 : decode cX6_give 183 = .ok (.invokestatic 60, 3) := by decide +kernel
theorem dX6_give_186 : decode cX6_give 186 = .ok (.putfield 18, 3) := by decide +kernel
theorem dX6_give_189 : decode cX6_give 189 = .ok (.return_, 1) := by decide +kernel
theorem dX7_init_0 : decode cX7_init 0 = .ok (.aload_n 0, 1) := by decide +kernel
theorem dX7_init_1 : decode cX7_init 1 = .ok (.invokespecial 1, 3) := by decide +kernel
theorem dX7_init_4 : decode cX7_init 4 = .ok (.aload_n 0, 1) := by decide +kernel
theorem dX7_init_5 : decode cX7_init 5 = .ok (.iconst 0, 1) := by decide +kernel
theorem dX7_init_6 : decode cX7_init 6 = .ok (.putfield 7, 3) := by decide +kernel
theorem dX7_init_9 : decode cX7_init 9 = .ok (.aload_n 0, 1) := by decide +kernel
theorem dX7_init_10 : decode cX7_init 10 = .ok (.iload_n 1, 1) := by decide +kernel
theorem dX7_init_11 : decode cX7_init 11 = .ok (.putfield 13, 3) := by decide +kernel
theorem dX7_init_14 : decode cX7_init 14 = .ok (.aload_n 0, 1) := by decide +kernel
theorem dX7_init_15 : decode cX7_init 15 = .ok (.iload_n 2, 1) := by decide +kernel
theorem dX7_init_16 : decode cX7_init 16 = .ok (.putfield 16, 3) := by decide +kernel
theorem dX7_init_19 : decode cX7_init 19 = .ok (.aload_n 0, 1) := by decide +kernel
theorem dX7_init_20 : decode cX7_init 20 = .ok (.iload_n 3, 1) := by decide +kernel
theorem dX7_init_21 : decode cX7_init 21 = .ok (.putfield 19, 3) := by decide +kernel
theorem dX7_init_24 : decode cX7_init 24 = .ok (.return_, 1) := by decide +kernel
theorem dX7_workAt_0 : decode cX7_workAt 0 = .ok (.iconst 1, 1) := by decide +kernel
theorem dX7_workAt_1 : decode cX7_workAt 1 = .ok (.iload_n 1, 1) := by decide +kernel
theorem dX7_workAt_2 : decode cX7_workAt 2 = .ok (.bipush 10, 2) := by decide +kernel
theorem dX7_workAt_4 : decode cX7_workAt 4 = .ok (.aload_n 0, 1) := by decide +kernel
theorem dX7_workAt_5 : decode cX7_workAt 5 = .ok (.getfield 19, 3) := by decide +kernel
theorem dX7_workAt_8 : decode cX7_workAt 8 = .ok (.isub, 1) := by decide +kernel
theorem dX7_workAt_9 : decode cX7_workAt 9 = .ok (.imul, 1) := by decide +kernel
theorem dX7_workAt_10 : decode cX7_workAt 10 = .ok (.bipush 10, 2) := by decide +kernel
theorem dX7_workAt_12 : decode cX7_workAt 12 = .ok (.idiv, 1) := by decide +kernel
theorem dX7_workAt_13 : decode cX7_workAt 13 = .ok (.invokestatic 22, 3) := by decide +kernel
theorem dX7_workAt_16 : decode cX7_workAt 16 = .ok (.istore_n 2, 1) := by decide +kernel
theorem dX7_workAt_17 : decode cX7_workAt 17 = .ok (.aload_n 0, 1) := by decide +kernel
theorem dX7_workAt_18 : decode cX7_workAt 18 = .ok (.getfield 7, 3) := by decide +kernel
theorem dX7_workAt_21 : decode cX7_workAt 21 = .ok (.ifCond .le 17, 3) := by decide +kernel
theorem dX7_workAt_24 : decode cX7_workAt 24 = .ok (.iload_n 2, 1) := by decide +kernel
theorem dX7_workAt_25 : decode cX7_workAt 25 = .ok (.iconst 2, 1) := by decide +kernel
theorem dX7_workAt_26 : decode cX7_workAt 26 = .ok (.idiv, 1) := by decide +kernel
theorem dX7_workAt_27 : decode cX7_workAt 27 = .ok (.istore_n 2, 1) := by decide +kernel
theorem dX7_workAt_28 : decode cX7_workAt 28 = .ok (.aload_n 0, 1) := by decide +kernel
theorem dX7_workAt_29 : decode cX7_workAt 29 = .ok (.dup, 1) := by decide +kernel
theorem dX7_workAt_30 : decode cX7_workAt 30 = .ok (.getfield 7, 3) := by decide +kernel
theorem dX7_workAt_33 : decode cX7_workAt 33 = .ok (.iconst 1, 1) := by decide +kernel
theorem dX7_workAt_34 : decode cX7_workAt 34 = .ok (.isub, 1) := by decide +kernel
theorem dX7_workAt_35 : decode cX7_workAt 35 = .ok (.putfield 7, 3) := by decide +kernel
theorem dX7_workAt_38 : decode cX7_workAt 38 = .ok (.aload_n 0, 1) := by decide +kernel
theorem dX7_workAt_39 : decode cX7_workAt 39 = .ok (.dup, 1) := by decide +kernel
theorem dX7_workAt_40 : decode cX7_workAt 40 = .ok (.getfield 16, 3) := by decide +kernel
theorem dX7_workAt_43 : decode cX7_workAt 43 = .ok (.iload_n 2, 1) := by decide +kernel
theorem dX7_workAt_44 : decode cX7_workAt 44 = .ok (.aload_n 0, 1) := by decide +kernel
theorem dX7_workAt_45 : decode cX7_workAt 45 = .ok (.getfield 16, 3) := by decide +kernel
theorem dX7_workAt_48 : decode cX7_workAt 48 = .ok (.invokestatic 28, 3) := by decide +kernel
theorem dX7_workAt_51 : decode cX7_workAt 51 = .ok (.isub, 1) := by decide +kernel
theorem dX7_workAt_52 : decode cX7_workAt 52 = .ok (.putfield 16, 3) := by decide +kernel
theorem dX7_workAt_55 : decode cX7_workAt 55 = .ok (.return_, 1) := by decide +kernel
set_option maxRecDepth 20000 in
theorem ggX8_init_X2_init : GoodIn wsX8_init wsX2_init := goodIn_r _ [33, 34, 2, 3, 35, 36, 37, 38, 39, 23, 24, 40, 41, 42, 43, 44, 45, 46, 47, 48, 49, 50, 51, 52, 53, 54, 55, 56, 57, 58, 59, 60, 61, 62, 63, 64, 65, 66, 67, 68, 69, 70, 71, 72, 73, 74, 75, 76, 77, 78, 79, 80, 81, 146, 147, 148, 120, 121, 122, 123, 124, 142, 143] (by decide +kernel) (by decide +kernel)
set_option maxRecDepth 20000 in
theorem gX8_init_X2_init : GoodIn wsX8_init (wsX2_init) := ggX8_init_X2_init
set_option maxRecDepth 20000 in
theorem ggX8_init_X6_init : GoodIn wsX8_init wsX6_init := goodIn_r _ [83, 84, 2, 3, 85, 86, 87, 88, 89, 90, 91, 92, 93, 94, 125, 126, 127, 128, 129, 130, 131, 132, 133, 134] (by decide +kernel) (by decide +kernel)
set_option maxRecDepth 20000 in
theorem gX8_init_X6_init_n36 : GoodIn wsX8_init (wsX6_init) := ggX8_init_X6_init
set_option maxRecDepth 20000 in
theorem ggX8_init_X5_init : GoodIn wsX8_init wsX5_init := goodIn_r _ [96, 97, 2, 3, 98, 99, 100, 101, 102, 103, 104, 135, 136, 137, 138, 139, 140, 141] (by decide +kernel) (by decide +kernel)
set_option maxRecDepth 20000 in
theorem gX8_init_X5_init_n43 : GoodIn wsX8_init (wsX5_init) := ggX8_init_X5_init
set_option maxRecDepth 20000 in
theorem ggX8_init_X0_init : GoodIn wsX8_init wsX0_init := goodIn_r _ [53, 54, 2, 3, 55, 56, 57, 142, 143] (by decide +kernel) (by decide +kernel)
set_option maxRecDepth 20000 in
theorem gX8_init_X0_init_n50 : GoodIn wsX8_init (wsX0_init) := ggX8_init_X0_init
set_option maxRecDepth 20000 in
theorem ggX8_init_X4_init : GoodIn wsX8_init wsX4_init := goodIn_r _ [106, 107, 2, 3, 108, 109, 144, 145] (by decide +kernel) (by decide +kernel)
set_option maxRecDepth 20000 in
theorem gX8_init_X4_init_n66 : GoodIn wsX8_init (wsX4_init) := ggX8_init_X4_init
theorem dX8_init_0 : decode cX8_init 0 = .ok (.aload_n 0, 1) := by decide +kernel
theorem dX8_init_1 : decode cX8_init 1 = .ok (.invokespecial 1, 3) := by decide +kernel
theorem dX8_init_4 : decode cX8_init 4 = .ok (.aload_n 0, 1) := by decide +kernel
theorem dX8_init_5 : decode cX8_init 5 = .ok (.iconst 3, 1) := by decide +kernel
theorem dX8_init_6 : decode cX8_init 6 = .ok (.anewarray 9, 3) := by decide +kernel
theorem dX8_init_9 : decode cX8_init 9 = .ok (.putfield 11, 3) := by decide +kernel
theorem dX8_init_12 : decode cX8_init 12 = .ok (.aload_n 0, 1) := by decide +kernel
theorem dX8_init_13 : decode cX8_init 13 = .ok (.bipush 6, 2) := by decide +kernel
theorem dX8_init_15 : decode cX8_init 15 = .ok (.anewarray 15, 3) := by decide +kernel
theorem dX8_init_18 : decode cX8_init 18 = .ok (.putfield 17, 3) := by decide +kernel
theorem dX8_init_21 : decode cX8_init 21 = .ok (.aload_n 0, 1) := by decide +kernel
theorem dX8_init_22 : decode cX8_init 22 = .ok (.bipush 8, 2) := by decide +kernel
theorem dX8_init_24 : decode cX8_init 24 = .ok (.anewarray 21, 3) := by decide +kernel
theorem dX8_init_27 : decode cX8_init 27 = .ok (.putfield 23, 3) := by decide +kernel
theorem dX8_init_30 : decode cX8_init 30 = .ok (.aload_n 0, 1) := by decide +kernel
theorem dX8_init_31 : decode cX8_init 31 = .ok (.new 27, 3) := by decide +kernel
theorem dX8_init_34 : decode cX8_init 34 = .ok (.dup, 1) := by decide +kernel
theorem dX8_init_35 : decode cX8_init 35 = .ok (.invokespecial 29, 3) := by decide +kernel
theorem dX8_init_38 : decode cX8_init 38 = .ok (.putfield 30, 3) := by decide +kernel
theorem dX8_init_41 : decode cX8_init 41 = .ok (.aload_n 0, 1) := by decide +kernel
theorem dX8_init_42 : decode cX8_init 42 = .ok (.new 34, 3) := by decide +kernel
theorem dX8_init_45 : decode cX8_init 45 = .ok (.dup, 1) := by decide +kernel
theorem dX8_init_46 : decode cX8_init 46 = .ok (.invokespecial 36, 3) := by decide +kernel
theorem dX8_init_49 : decode cX8_init 49 = .ok (.putfield 37, 3) := by decide +kernel
theorem dX8_init_52 : decode cX8_init 52 = .ok (.aload_n 0, 1) := by decide +kernel
theorem dX8_init_53 : decode cX8_init 53 = .ok (.new 41, 3) := by decide +kernel
theorem dX8_init_56 : decode cX8_init 56 = .ok (.dup, 1) := by decide +kernel
theorem dX8_init_57 : decode cX8_init 57 = .ok (.invokespecial 43, 3) := by decide +kernel
theorem dX8_init_60 : decode cX8_init 60 = .ok (.putfield 44, 3) := by decide +kernel
theorem dX8_init_63 : decode cX8_init 63 = .ok (.aload_n 0, 1) := by decide +kernel
theorem dX8_init_64 : decode cX8_init 64 = .ok (.new 48, 3) := by decide +kernel
theorem dX8_init_67 : decode cX8_init 67 = .ok (.dup, 1) := by decide +kernel
theorem dX8_init_68 : decode cX8_init 68 = .ok (.invokespecial 50, 3) := by decide +kernel
theorem dX8_init_71 : decode cX8_init 71 = .ok (.putfield 51, 3) := by decide +kernel
theorem dX8_init_74 : decode cX8_init 74 = .ok (.aload_n 0, 1) := by decide +kernel
theorem dX8_init_75 : decode cX8_init 75 = .ok (.new 48, 3) := by decide +kernel
theorem dX8_init_78 : decode cX8_init 78 = .ok (.dup, 1) := by decide +kernel
theorem dX8_init_79 : decode cX8_init 79 = .ok (.invokespecial 50, 3) := by decide +kernel
theorem dX8_init_82 : decode cX8_init 82 = .ok (.putfield 55, 3) := by decide +kernel
theorem dX8_init_85 : decode cX8_init 85 = .ok (.aload_n 0, 1) := by decide +kernel
theorem dX8_init_86 : decode cX8_init 86 = .ok (.iconst 0, 1) := by decide +kernel
theorem dX8_init_87 : decode cX8_init 87 = .ok (.putfield 58, 3) := by decide +kernel
theorem dX8_init_90 : decode cX8_init 90 = .ok (.aload_n 0, 1) := by decide +kernel
theorem dX8_init_91 : decode cX8_init 91 = .ok (.lconst 0, 1) := by decide +kernel
theorem dX8_init_92 : decode cX8_init 92 = .ok (.putfield 62, 3) := by decide +kernel
theorem dX8_init_95 : decode cX8_init 95 = .ok (.iconst 0, 1) := by decide +kernel
theorem dX8_init_96 : decode cX8_init 96 = .ok (.istore_n 1, 1) := by decide +kernel
theorem dX8_init_97 : decode cX8_init 97 = .ok (.iload_n 1, 1) := by decide +kernel
theorem dX8_init_98 : decode cX8_init 98 = .ok (.aload_n 0, 1) := by decide +kernel
theorem dX8_init_99 : decode cX8_init 99 = .ok (.getfield 11, 3) := by decide +kernel
theorem dX8_init_102 : decode cX8_init 102 = .ok (.arraylength, 1) := by decide +kernel
theorem dX8_init_103 : decode cX8_init 103 = .ok (.if_icmp .ge 22, 3) := by decide +kernel
theorem dX8_init_106 : decode cX8_init 106 = .ok (.aload_n 0, 1) := by decide +kernel
theorem dX8_init_107 : decode cX8_init 107 = .ok (.getfield 11, 3) := by decide +kernel
theorem dX8_init_110 : decode cX8_init 110 = .ok (.iload_n 1, 1) := by decide +kernel
theorem dX8_init_111 : decode cX8_init 111 = .ok (.new 9, 3) := by decide +kernel
theorem dX8_init_114 : decode cX8_init 114 = .ok (.dup, 1) := by decide +kernel
theorem dX8_init_115 : decode cX8_init 115 = .ok (.invokespecial 66, 3) := by decide +kernel
theorem dX8_init_118 : decode cX8_init 118 = .ok (.aastore, 1) := by decide +kernel
theorem dX8_init_119 : decode cX8_init 119 = .ok (.iinc 1 1, 3) := by decide +kernel
theorem dX8_init_122 : decode cX8_init 122 = .ok (.goto (-25), 3) := by decide +kernel
theorem dX8_init_125 : decode cX8_init 125 = .ok (.return_, 1) := by decide +kernel
set_option maxRecDepth 20000 in
theorem ggX8_core_X8_railAt : GoodIn wsX8_core wsX8_railAt := goodIn_ca (goodIn_r _ [13, 14, 15, 16, 85, 86, 87, 88, 89, 90, 91, 92, 93, 94] (by decide +kernel) (by decide +kernel)) (goodIn_sub (fun _ h => List.mem_cons_of_mem _ (List.mem_append_right _ h)) (by decide +kernel))
set_option maxRecDepth 20000 in
theorem gX8_core_X8_railAt : GoodIn wsX8_core (wsV RX8 67 RX8 yX8_railAt wsX8_railAt) := goodIn_app (goodIn_of _ (by decide +kernel)) ggX8_core_X8_railAt
set_option maxRecDepth 20000 in
theorem ggX8_core_X3_init : GoodIn wsX8_core wsX3_init := goodIn_r _ [19, 20, 21, 22, 23, 24, 25, 26, 27, 28, 29, 30, 31, 32, 33, 34, 35, 36, 37, 38, 39, 40, 41, 42, 43, 44, 45, 46, 47, 48, 49, 50, 51, 52, 53, 54, 55, 56, 57, 58, 59, 60, 61, 62, 63, 64, 65, 66, 67, 68, 69, 70, 71, 72, 73, 74, 75, 76, 77, 78, 79, 80, 81, 82, 83, 84, 95, 96, 97, 98, 99, 100, 101, 102, 103, 104, 105, 106, 107, 108, 109, 110, 111, 112, 113, 114, 115, 116, 117, 118, 119] (by decide +kernel) (by decide +kernel)
set_option maxRecDepth 20000 in
theorem gX8_core_X3_init : GoodIn wsX8_core (wsX3_init) := ggX8_core_X3_init
theorem dX8_core_0 : decode cX8_core 0 = .ok (.aload_n 0, 1) := by decide +kernel
theorem dX8_core_1 : decode cX8_core 1 = .ok (.iload_n 1, 1) := by decide +kernel
theorem dX8_core_2 : decode cX8_core 2 = .ok (.invokevirtual 67, 3) := by decide +kernel
theorem dX8_core_5 : decode cX8_core 5 = .ok (.astore_n 3, 1) := by decide +kernel
theorem dX8_core_6 : decode cX8_core 6 = .ok (.iload_n 2, 1) := by decide +kernel
theorem dX8_core_7 : decode cX8_core 7 = .ok (.bipush 115, 2) := by decide +kernel
theorem dX8_core_9 : decode cX8_core 9 = .ok (.if_icmp .eq 19, 3) := by decide +kernel
theorem dX8_core_12 : decode cX8_core 12 = .ok (.iload_n 2, 1) := by decide +kernel
theorem dX8_core_13 : decode cX8_core 13 = .ok (.bipush 98, 2) := by decide +kernel
theorem dX8_core_15 : decode cX8_core 15 = .ok (.if_icmp .eq 13, 3) := by decide +kernel
theorem dX8_core_18 : decode cX8_core 18 = .ok (.new 71, 3) := by decide +kernel
theorem dX8_core_21 : decode cX8_core 21 = .ok (.dup, 1) := by decide +kernel
theorem dX8_core_22 : decode cX8_core 22 = .ok (.ldc 73, 2) := by decide +kernel
theorem dX8_core_24 : decode cX8_core 24 = .ok (.invokespecial 75, 3) := by decide +kernel
theorem dX8_core_27 : decode cX8_core 27 = .ok (.athrow, 1) := by decide +kernel
theorem dX8_core_28 : decode cX8_core 28 = .ok (.iconst 0, 1) := by decide +kernel
theorem dX8_core_29 : decode cX8_core 29 = .ok (.istore 4, 2) := by decide +kernel
theorem dX8_core_31 : decode cX8_core 31 = .ok (.iload 4, 2) := by decide +kernel
theorem dX8_core_33 : decode cX8_core 33 = .ok (.aload_n 0, 1) := by decide +kernel
theorem dX8_core_34 : decode cX8_core 34 = .ok (.getfield 17, 3) := by decide +kernel
theorem dX8_core_37 : decode cX8_core 37 = .ok (.arraylength, 1) := by decide +kernel
theorem dX8_core_38 : decode cX8_core 38 = .ok (.if_icmp .ge 50, 3) := by decide +kernel
theorem dX8_core_41 : decode cX8_core 41 = .ok (.aload_n 0, 1) := by decide +kernel
theorem dX8_core_42 : decode cX8_core 42 = .ok (.getfield 17, 3) := by decide +kernel
theorem dX8_core_45 : decode cX8_core 45 = .ok (.iload 4, 2) := by decide +kernel
theorem dX8_core_47 : decode cX8_core 47 = .ok (.aaload, 1) := by decide +kernel
theorem dX8_core_48 : decode cX8_core 48 = .ok (.ifnonnull 34, 3) := by decide +kernel
theorem dX8_core_51 : decode cX8_core 51 = .ok (.aload_n 0, 1) := by decide +kernel
theorem dX8_core_52 : decode cX8_core 52 = .ok (.getfield 17, 3) := by decide +kernel
theorem dX8_core_55 : decode cX8_core 55 = .ok (.iload 4, 2) := by decide +kernel
theorem dX8_core_57 : decode cX8_core 57 = .ok (.new 15, 3) := by decide +kernel
theorem dX8_core_60 : decode cX8_core 60 = .ok (.dup, 1) := by decide +kernel
theorem dX8_core_61 : decode cX8_core 61 = .ok (.iload 4, 2) := by decide +kernel
theorem dX8_core_63 : decode cX8_core 63 = .ok (.aload_n 3, 1) := by decide +kernel
theorem dX8_core_64 : decode cX8_core 64 = .ok (.iload_n 2, 1) := by decide +kernel
theorem dX8_core_65 : decode cX8_core 65 = .ok (.bipush 98, 2) := by decide +kernel
theorem dX8_core_67 : decode cX8_core 67 = .ok (.if_icmp .ne 7, 3) := by decide +kernel
theorem dX8_core_70 : decode cX8_core 70 = .ok (.iconst 1, 1) := by decide +kernel
theorem dX8_core_71 : decode cX8_core 71 = .ok (.goto 4, 3) := by decide +kernel
theorem dX8_core_74 : decode cX8_core 74 = .ok (.iconst 0, 1) := by decide +kernel
theorem dX8_core_75 : decode cX8_core 75 = .ok (.invokespecial 78, 3) := by decide +kernel
theorem dX8_core_78 : decode cX8_core 78 = .ok (.aastore, 1) := by decide +kernel
theorem dX8_core_79 : decode cX8_core 79 = .ok (.iload 4, 2) := by decide +kernel
theorem dX8_core_81 : decode cX8_core 81 = .ok (.ireturn, 1) := by decide +kernel
theorem dX8_core_82 : decode cX8_core 82 = .ok (.iinc 4 1, 3) := by decide +kernel
theorem dX8_core_85 : decode cX8_core 85 = .ok (.goto (-54), 3) := by decide +kernel
theorem dX8_core_88 : decode cX8_core 88 = .ok (.new 81, 3) := by decide +kernel
theorem dX8_core_91 : decode cX8_core 91 = .ok (.dup, 1) := by decide +kernel
theorem dX8_core_92 : decode cX8_core 92 = .ok (.ldc 83, 2) := by decide +kernel
theorem dX8_core_94 : decode cX8_core 94 = .ok (.invokespecial 85, 3) := by decide +kernel
theorem dX8_core_97 : decode cX8_core 97 = .ok (.athrow, 1) := by decide +kernel
set_option maxRecDepth 20000 in
theorem ggX8_thread_X8_coreAt : GoodIn wsX8_thread wsX8_coreAt := goodIn_ca (goodIn_r _ [14, 15, 16, 17, 31, 32, 33, 34, 35, 36, 37, 38, 39, 40] (by decide +kernel) (by decide +kernel)) (goodIn_sub (fun _ h => List.mem_cons_of_mem _ (List.mem_append_right _ h)) (by decide +kernel))
set_option maxRecDepth 20000 in
theorem gX8_thread_X8_coreAt : GoodIn wsX8_thread (wsV RX8 86 RX8 yX8_coreAt wsX8_coreAt) := goodIn_app (goodIn_of _ (by decide +kernel)) ggX8_thread_X8_coreAt
set_option maxRecDepth 20000 in
theorem ggX8_thread_X8_isFrom : GoodIn wsX8_thread wsX8_isFrom := goodIn_r _ [20] (by decide +kernel) (by decide +kernel)
set_option maxRecDepth 20000 in
theorem gX8_thread_X8_isFrom : GoodIn wsX8_thread (va_wsS RX8 91 yX8_isFrom wsX8_isFrom) := goodIn_app (goodIn_of _ (by decide +kernel)) ggX8_thread_X8_isFrom
set_option maxRecDepth 20000 in
theorem ggX8_thread_X7_init : GoodIn wsX8_thread wsX7_init := goodIn_r _ [23, 24, 25, 26, 27, 28, 29, 30, 41, 42, 43, 44] (by decide +kernel) (by decide +kernel)
set_option maxRecDepth 20000 in
theorem gX8_thread_X7_init : GoodIn wsX8_thread (wsX7_init) := ggX8_thread_X7_init
theorem dX8_thread_0 : decode cX8_thread 0 = .ok (.aload_n 0, 1) := by decide +kernel
theorem dX8_thread_1 : decode cX8_thread 1 = .ok (.iload_n 1, 1) := by decide +kernel
theorem dX8_thread_2 : decode cX8_thread 2 = .ok (.invokevirtual 86, 3) := by decide +kernel
theorem dX8_thread_5 : decode cX8_thread 5 = .ok (.pop, 1) := by decide +kernel
theorem dX8_thread_6 : decode cX8_thread 6 = .ok (.iconst 1, 1) := by decide +kernel
theorem dX8_thread_7 : decode cX8_thread 7 = .ok (.iload_n 2, 1) := by decide +kernel
theorem dX8_thread_8 : decode cX8_thread 8 = .ok (.ldc 90, 2) := by decide +kernel
theorem dX8_thread_10 : decode cX8_thread 10 = .ok (.invokestatic 91, 3) := by decide +kernel
theorem dX8_thread_13 : decode cX8_thread 13 = .ok (.ifCond .eq 13, 3) := by decide +kernel
theorem dX8_thread_16 : decode cX8_thread 16 = .ok (.iconst 0, 1) := by decide +kernel
theorem dX8_thread_17 : decode cX8_thread 17 = .ok (.iload_n 3, 1) := by decide +kernel
theorem dX8_thread_18 : decode cX8_thread 18 = .ok (.bipush 9, 2) := by decide +kernel
theorem dX8_thread_20 : decode cX8_thread 20 = .ok (.invokestatic 91, 3) := by decide +kernel
theorem dX8_thread_23 : decode cX8_thread 23 = .ok (.ifCond .ne 13, 3) := by decide +kernel
theorem dX8_thread_26 : decode cX8_thread 26 = .ok (.new 71, 3) := by decide +kernel
theorem dX8_thread_29 : decode cX8_thread 29 = .ok (.dup, 1) := by decide +kernel
theorem dX8_thread_30 : decode cX8_thread 30 = .ok (.ldc 95, 2) := by decide +kernel
theorem dX8_thread_32 : decode cX8_thread 32 = .ok (.invokespecial 75, 3) := by decide +kernel
theorem dX8_thread_35 : decode cX8_thread 35 = .ok (.athrow, 1) := by decide +kernel
theorem dX8_thread_36 : decode cX8_thread 36 = .ok (.iconst 0, 1) := by decide +kernel
theorem dX8_thread_37 : decode cX8_thread 37 = .ok (.istore 4, 2) := by decide +kernel
theorem dX8_thread_39 : decode cX8_thread 39 = .ok (.iload 4, 2) := by decide +kernel
theorem dX8_thread_41 : decode cX8_thread 41 = .ok (.aload_n 0, 1) := by decide +kernel
theorem dX8_thread_42 : decode cX8_thread 42 = .ok (.getfield 23, 3) := by decide +kernel
theorem dX8_thread_45 : decode cX8_thread 45 = .ok (.arraylength, 1) := by decide +kernel
theorem dX8_thread_46 : decode cX8_thread 46 = .ok (.if_icmp .ge 39, 3) := by decide +kernel
theorem dX8_thread_49 : decode cX8_thread 49 = .ok (.aload_n 0, 1) := by decide +kernel
theorem dX8_thread_50 : decode cX8_thread 50 = .ok (.getfield 23, 3) := by decide +kernel
theorem dX8_thread_53 : decode cX8_thread 53 = .ok (.iload 4, 2) := by decide +kernel
theorem dX8_thread_55 : decode cX8_thread 55 = .ok (.aaload, 1) := by decide +kernel
theorem dX8_thread_56 : decode cX8_thread 56 = .ok (.ifnonnull 23, 3) := by decide +kernel
theorem dX8_thread_59 : decode cX8_thread 59 = .ok (.aload_n 0, 1) := by decide +kernel
theorem dX8_thread_60 : decode cX8_thread 60 = .ok (.getfield 23, 3) := by decide +kernel
theorem dX8_thread_63 : decode cX8_thread 63 = .ok (.iload 4, 2) := by decide +kernel
theorem dX8_thread_65 : decode cX8_thread 65 = .ok (.new 21, 3) := by decide +kernel
theorem dX8_thread_68 : decode cX8_thread 68 = .ok (.dup, 1) := by decide +kernel
theorem dX8_thread_69 : decode cX8_thread 69 = .ok (.iload_n 1, 1) := by decide +kernel
theorem dX8_thread_70 : decode cX8_thread 70 = .ok (.iload_n 2, 1) := by decide +kernel
theorem dX8_thread_71 : decode cX8_thread 71 = .ok (.iload_n 3, 1) := by decide +kernel
theorem dX8_thread_72 : decode cX8_thread 72 = .ok (.invokespecial 97, 3) := by decide +kernel
theorem dX8_thread_75 : decode cX8_thread 75 = .ok (.aastore, 1) := by decide +kernel
theorem dX8_thread_76 : decode cX8_thread 76 = .ok (.iload 4, 2) := by decide +kernel
theorem dX8_thread_78 : decode cX8_thread 78 = .ok (.ireturn, 1) := by decide +kernel
theorem dX8_thread_79 : decode cX8_thread 79 = .ok (.iinc 4 1, 3) := by decide +kernel
theorem dX8_thread_82 : decode cX8_thread 82 = .ok (.goto (-43), 3) := by decide +kernel
theorem dX8_thread_85 : decode cX8_thread 85 = .ok (.new 81, 3) := by decide +kernel
theorem dX8_thread_88 : decode cX8_thread 88 = .ok (.dup, 1) := by decide +kernel
theorem dX8_thread_89 : decode cX8_thread 89 = .ok (.ldc 100, 2) := by decide +kernel
theorem dX8_thread_91 : decode cX8_thread 91 = .ok (.invokespecial 85, 3) := by decide +kernel
theorem dX8_thread_94 : decode cX8_thread 94 = .ok (.athrow, 1) := by decide +kernel
set_option maxRecDepth 20000 in
theorem ggX8_feed_X8_taskAt : GoodIn wsX8_feed wsX8_taskAt := goodIn_ca (goodIn_r _ [12, 13, 14, 15, 23, 24, 25, 26, 27, 28, 29, 30, 31, 32] (by decide +kernel) (by decide +kernel)) (goodIn_sub (fun _ h => List.mem_cons_of_mem _ (List.mem_append_right _ h)) (by decide +kernel))
set_option maxRecDepth 20000 in
theorem gX8_feed_X8_taskAt : GoodIn wsX8_feed (wsV RX8 102 RX8 yX8_taskAt wsX8_taskAt) := goodIn_app (goodIn_of _ (by decide +kernel)) ggX8_feed_X8_taskAt
set_option maxRecDepth 20000 in
theorem ggX8_feed_X8_isFrom : GoodIn wsX8_feed wsX8_isFrom := goodIn_r _ [18] (by decide +kernel) (by decide +kernel)
set_option maxRecDepth 20000 in
theorem gX8_feed_X8_isFrom : GoodIn wsX8_feed (va_wsS RX8 91 yX8_isFrom wsX8_isFrom) := goodIn_app (goodIn_of _ (by decide +kernel)) ggX8_feed_X8_isFrom
theorem dX8_feed_0 : decode cX8_feed 0 = .ok (.aload_n 0, 1) := by decide +kernel
theorem dX8_feed_1 : decode cX8_feed 1 = .ok (.iload_n 1, 1) := by decide +kernel
theorem dX8_feed_2 : decode cX8_feed 2 = .ok (.invokevirtual 102, 3) := by decide +kernel
theorem dX8_feed_5 : decode cX8_feed 5 = .ok (.astore_n 3, 1) := by decide +kernel
theorem dX8_feed_6 : decode cX8_feed 6 = .ok (.iconst 1, 1) := by decide +kernel
theorem dX8_feed_7 : decode cX8_feed 7 = .ok (.iload_n 2, 1) := by decide +kernel
theorem dX8_feed_8 : decode cX8_feed 8 = .ok (.ldc 90, 2) := by decide +kernel
theorem dX8_feed_10 : decode cX8_feed 10 = .ok (.invokestatic 91, 3) := by decide +kernel
theorem dX8_feed_13 : decode cX8_feed 13 = .ok (.ifCond .ne 13, 3) := by decide +kernel
theorem dX8_feed_16 : decode cX8_feed 16 = .ok (.new 71, 3) := by decide +kernel
theorem dX8_feed_19 : decode cX8_feed 19 = .ok (.dup, 1) := by decide +kernel
theorem dX8_feed_20 : decode cX8_feed 20 = .ok (.ldc 95, 2) := by decide +kernel
theorem dX8_feed_22 : decode cX8_feed 22 = .ok (.invokespecial 75, 3) := by decide +kernel
theorem dX8_feed_25 : decode cX8_feed 25 = .ok (.athrow, 1) := by decide +kernel
theorem dX8_feed_26 : decode cX8_feed 26 = .ok (.aload_n 3, 1) := by decide +kernel
theorem dX8_feed_27 : decode cX8_feed 27 = .ok (.getfield 106, 3) := by decide +kernel
theorem dX8_feed_30 : decode cX8_feed 30 = .ok (.iload_n 2, 1) := by decide +kernel
theorem dX8_feed_31 : decode cX8_feed 31 = .ok (.iadd, 1) := by decide +kernel
theorem dX8_feed_32 : decode cX8_feed 32 = .ok (.ldc 109, 2) := by decide +kernel
theorem dX8_feed_34 : decode cX8_feed 34 = .ok (.if_icmp .le 13, 3) := by decide +kernel
theorem dX8_feed_37 : decode cX8_feed 37 = .ok (.new 81, 3) := by decide +kernel
theorem dX8_feed_40 : decode cX8_feed 40 = .ok (.dup, 1) := by decide +kernel
theorem dX8_feed_41 : decode cX8_feed 41 = .ok (.ldc 110, 2) := by decide +kernel
theorem dX8_feed_43 : decode cX8_feed 43 = .ok (.invokespecial 85, 3) := by decide +kernel
theorem dX8_feed_46 : decode cX8_feed 46 = .ok (.athrow, 1) := by decide +kernel
theorem dX8_feed_47 : decode cX8_feed 47 = .ok (.aload_n 3, 1) := by decide +kernel
theorem dX8_feed_48 : decode cX8_feed 48 = .ok (.dup, 1) := by decide +kernel
theorem dX8_feed_49 : decode cX8_feed 49 = .ok (.getfield 106, 3) := by decide +kernel
theorem dX8_feed_52 : decode cX8_feed 52 = .ok (.iload_n 2, 1) := by decide +kernel
theorem dX8_feed_53 : decode cX8_feed 53 = .ok (.iadd, 1) := by decide +kernel
theorem dX8_feed_54 : decode cX8_feed 54 = .ok (.putfield 106, 3) := by decide +kernel
theorem dX8_feed_57 : decode cX8_feed 57 = .ok (.aload_n 3, 1) := by decide +kernel
theorem dX8_feed_58 : decode cX8_feed 58 = .ok (.getfield 106, 3) := by decide +kernel
theorem dX8_feed_61 : decode cX8_feed 61 = .ok (.ireturn, 1) := by decide +kernel
set_option maxRecDepth 20000 in
theorem ggX8_move_X8_taskAt : GoodIn wsX8_move wsX8_taskAt := goodIn_ca (goodIn_r _ [9, 10, 11, 12, 22, 23, 24, 25, 26, 27, 28, 29, 30, 31] (by decide +kernel) (by decide +kernel)) (goodIn_sub (fun _ h => List.mem_cons_of_mem _ (List.mem_append_right _ h)) (by decide +kernel))
set_option maxRecDepth 20000 in
theorem gX8_move_X8_taskAt : GoodIn wsX8_move (wsV RX8 102 RX8 yX8_taskAt wsX8_taskAt) := goodIn_app (goodIn_of _ (by decide +kernel)) ggX8_move_X8_taskAt
set_option maxRecDepth 20000 in
theorem ggX8_move_X8_coreAt : GoodIn wsX8_move wsX8_coreAt := goodIn_ca (goodIn_r _ [16, 10, 11, 17, 22, 23, 24, 25, 26, 27, 28, 29, 30, 31] (by decide +kernel) (by decide +kernel)) (goodIn_sub (fun _ h => List.mem_cons_of_mem _ (List.mem_append_right _ h)) (by decide +kernel))
set_option maxRecDepth 20000 in
theorem gX8_move_X8_coreAt : GoodIn wsX8_move (wsV RX8 86 RX8 yX8_coreAt wsX8_coreAt) := goodIn_app (goodIn_of _ (by decide +kernel)) ggX8_move_X8_coreAt
theorem dX8_move_0 : decode cX8_move 0 = .ok (.aload_n 0, 1) := by decide +kernel
theorem dX8_move_1 : decode cX8_move 1 = .ok (.iload_n 1, 1) := by decide +kernel
theorem dX8_move_2 : decode cX8_move 2 = .ok (.invokevirtual 102, 3) := by decide +kernel
theorem dX8_move_5 : decode cX8_move 5 = .ok (.astore_n 3, 1) := by decide +kernel
theorem dX8_move_6 : decode cX8_move 6 = .ok (.aload_n 0, 1) := by decide +kernel
theorem dX8_move_7 : decode cX8_move 7 = .ok (.iload_n 2, 1) := by decide +kernel
theorem dX8_move_8 : decode cX8_move 8 = .ok (.invokevirtual 86, 3) := by decide +kernel
theorem dX8_move_11 : decode cX8_move 11 = .ok (.pop, 1) := by decide +kernel
theorem dX8_move_12 : decode cX8_move 12 = .ok (.aload_n 3, 1) := by decide +kernel
theorem dX8_move_13 : decode cX8_move 13 = .ok (.getfield 112, 3) := by decide +kernel
theorem dX8_move_16 : decode cX8_move 16 = .ok (.iload_n 2, 1) := by decide +kernel
theorem dX8_move_17 : decode cX8_move 17 = .ok (.if_icmp .ne 13, 3) := by decide +kernel
theorem dX8_move_20 : decode cX8_move 20 = .ok (.new 115, 3) := by decide +kernel
theorem dX8_move_23 : decode cX8_move 23 = .ok (.dup, 1) := by decide +kernel
theorem dX8_move_24 : decode cX8_move 24 = .ok (.ldc 117, 2) := by decide +kernel
theorem dX8_move_26 : decode cX8_move 26 = .ok (.invokespecial 119, 3) := by decide +kernel
theorem dX8_move_29 : decode cX8_move 29 = .ok (.athrow, 1) := by decide +kernel
theorem dX8_move_30 : decode cX8_move 30 = .ok (.aload_n 3, 1) := by decide +kernel
theorem dX8_move_31 : decode cX8_move 31 = .ok (.getfield 112, 3) := by decide +kernel
theorem dX8_move_34 : decode cX8_move 34 = .ok (.istore 4, 2) := by decide +kernel
theorem dX8_move_36 : decode cX8_move 36 = .ok (.aload_n 3, 1) := by decide +kernel
theorem dX8_move_37 : decode cX8_move 37 = .ok (.iload_n 2, 1) := by decide +kernel
theorem dX8_move_38 : decode cX8_move 38 = .ok (.putfield 112, 3) := by decide +kernel
theorem dX8_move_41 : decode cX8_move 41 = .ok (.aload_n 3, 1) := by decide +kernel
theorem dX8_move_42 : decode cX8_move 42 = .ok (.iconst 5, 1) := by decide +kernel
theorem dX8_move_43 : decode cX8_move 43 = .ok (.putfield 120, 3) := by decide +kernel
theorem dX8_move_46 : decode cX8_move 46 = .ok (.iload 4, 2) := by decide +kernel
theorem dX8_move_48 : decode cX8_move 48 = .ok (.ireturn, 1) := by decide +kernel
set_option maxRecDepth 20000 in
theorem ggX8_governor_X8_coreAt : GoodIn wsX8_governor wsX8_coreAt := goodIn_ca (goodIn_r _ [9, 10, 11, 12, 36, 37, 38, 39, 40, 41, 42, 43, 44, 45] (by decide +kernel) (by decide +kernel)) (goodIn_sub (fun _ h => List.mem_cons_of_mem _ (List.mem_append_right _ h)) (by decide +kernel))
set_option maxRecDepth 20000 in
theorem gX8_governor_X8_coreAt : GoodIn wsX8_governor (wsV RX8 86 RX8 yX8_coreAt wsX8_coreAt) := goodIn_app (goodIn_of _ (by decide +kernel)) ggX8_governor_X8_coreAt
set_option maxRecDepth 20000 in
theorem ggX8_governor_X8_isFrom : GoodIn wsX8_governor wsX8_isFrom := goodIn_r _ [15] (by decide +kernel) (by decide +kernel)
set_option maxRecDepth 20000 in
theorem gX8_governor_X8_isFrom : GoodIn wsX8_governor (va_wsS RX8 91 yX8_isFrom wsX8_isFrom) := goodIn_app (goodIn_of _ (by decide +kernel)) ggX8_governor_X8_isFrom
theorem dX8_governor_0 : decode cX8_governor 0 = .ok (.aload_n 0, 1) := by decide +kernel
theorem dX8_governor_1 : decode cX8_governor 1 = .ok (.iload_n 1, 1) := by decide +kernel
theorem dX8_governor_2 : decode cX8_governor 2 = .ok (.invokevirtual 86, 3) := by decide +kernel
theorem dX8_governor_5 : decode cX8_governor 5 = .ok (.astore 4, 2) := by decide +kernel
theorem dX8_governor_7 : decode cX8_governor 7 = .ok (.iload_n 2, 1) := by decide +kernel
theorem dX8_governor_8 : decode cX8_governor 8 = .ok (.bipush 102, 2) := by decide +kernel
theorem dX8_governor_10 : decode cX8_governor 10 = .ok (.if_icmp .eq 25, 3) := by decide +kernel
theorem dX8_governor_13 : decode cX8_governor 13 = .ok (.iload_n 2, 1) := by decide +kernel
theorem dX8_governor_14 : decode cX8_governor 14 = .ok (.bipush 108, 2) := by decide +kernel
theorem dX8_governor_16 : decode cX8_governor 16 = .ok (.if_icmp .eq 19, 3) := by decide +kernel
theorem dX8_governor_19 : decode cX8_governor 19 = .ok (.iload_n 2, 1) := by decide +kernel
theorem dX8_governor_20 : decode cX8_governor 20 = .ok (.bipush 119, 2) := by decide +kernel
theorem dX8_governor_22 : decode cX8_governor 22 = .ok (.if_icmp .eq 13, 3) := by decide +kernel
theorem dX8_governor_25 : decode cX8_governor 25 = .ok (.new 71, 3) := by decide +kernel
theorem dX8_governor_28 : decode cX8_governor 28 = .ok (.dup, 1) := by decide +kernel
theorem dX8_governor_29 : decode cX8_governor 29 = .ok (.ldc 123, 2) := by decide +kernel
theorem dX8_governor_31 : decode cX8_governor 31 = .ok (.invokespecial 75, 3) := by decide +kernel
theorem dX8_governor_34 : decode cX8_governor 34 = .ok (.athrow, 1) := by decide +kernel
theorem dX8_governor_35 : decode cX8_governor 35 = .ok (.iload_n 2, 1) := by decide +kernel
theorem dX8_governor_36 : decode cX8_governor 36 = .ok (.bipush 102, 2) := by decide +kernel
theorem dX8_governor_38 : decode cX8_governor 38 = .ok (.if_icmp .ne 23, 3) := by decide +kernel
theorem dX8_governor_41 : decode cX8_governor 41 = .ok (.iconst 0, 1) := by decide +kernel
theorem dX8_governor_42 : decode cX8_governor 42 = .ok (.iload_n 3, 1) := by decide +kernel
theorem dX8_governor_43 : decode cX8_governor 43 = .ok (.bipush 7, 2) := by decide +kernel
theorem dX8_governor_45 : decode cX8_governor 45 = .ok (.invokestatic 91, 3) := by decide +kernel
theorem dX8_governor_48 : decode cX8_governor 48 = .ok (.ifCond .ne 13, 3) := by decide +kernel
theorem dX8_governor_51 : decode cX8_governor 51 = .ok (.new 71, 3) := by decide +kernel
theorem dX8_governor_54 : decode cX8_governor 54 = .ok (.dup, 1) := by decide +kernel
theorem dX8_governor_55 : decode cX8_governor 55 = .ok (.ldc 125, 2) := by decide +kernel
theorem dX8_governor_57 : decode cX8_governor 57 = .ok (.invokespecial 75, 3) := by decide +kernel
theorem dX8_governor_60 : decode cX8_governor 60 = .ok (.athrow, 1) := by decide +kernel
theorem dX8_governor_61 : decode cX8_governor 61 = .ok (.aload 4, 2) := by decide +kernel
theorem dX8_governor_63 : decode cX8_governor 63 = .ok (.getfield 127, 3) := by decide +kernel
theorem dX8_governor_66 : decode cX8_governor 66 = .ok (.istore 5, 2) := by decide +kernel
theorem dX8_governor_68 : decode cX8_governor 68 = .ok (.aload 4, 2) := by decide +kernel
theorem dX8_governor_70 : decode cX8_governor 70 = .ok (.iload_n 2, 1) := by decide +kernel
theorem dX8_governor_71 : decode cX8_governor 71 = .ok (.putfield 127, 3) := by decide +kernel
theorem dX8_governor_74 : decode cX8_governor 74 = .ok (.aload 4, 2) := by decide +kernel
theorem dX8_governor_76 : decode cX8_governor 76 = .ok (.iload_n 3, 1) := by decide +kernel
theorem dX8_governor_77 : decode cX8_governor 77 = .ok (.putfield 131, 3) := by decide +kernel
theorem dX8_governor_80 : decode cX8_governor 80 = .ok (.iload 5, 2) := by decide +kernel
theorem dX8_governor_82 : decode cX8_governor 82 = .ok (.ireturn, 1) := by decide +kernel
set_option maxRecDepth 20000 in
theorem ggX8_work_X8_taskAt : GoodIn wsX8_work wsX8_taskAt := goodIn_ca (goodIn_r _ [6, 7, 8, 9, 14, 15, 16, 17, 18, 19, 20, 21, 22, 23] (by decide +kernel) (by decide +kernel)) (goodIn_sub (fun _ h => List.mem_cons_of_mem _ (List.mem_append_right _ h)) (by decide +kernel))
set_option maxRecDepth 20000 in
theorem gX8_work_X8_taskAt : GoodIn wsX8_work (wsV RX8 102 RX8 yX8_taskAt wsX8_taskAt) := goodIn_app (goodIn_of _ (by decide +kernel)) ggX8_work_X8_taskAt
theorem dX8_work_0 : decode cX8_work 0 = .ok (.aload_n 0, 1) := by decide +kernel
theorem dX8_work_1 : decode cX8_work 1 = .ok (.iload_n 1, 1) := by decide +kernel
theorem dX8_work_2 : decode cX8_work 2 = .ok (.invokevirtual 102, 3) := by decide +kernel
theorem dX8_work_5 : decode cX8_work 5 = .ok (.getfield 106, 3) := by decide +kernel
theorem dX8_work_8 : decode cX8_work 8 = .ok (.ireturn, 1) := by decide +kernel
set_option maxRecDepth 20000 in
theorem ggX8_isCold_X8_taskAt : GoodIn wsX8_isCold wsX8_taskAt := goodIn_ca (goodIn_r _ [6, 7, 8, 9, 14, 15, 16, 17, 18, 19, 20, 21, 22, 23] (by decide +kernel) (by decide +kernel)) (goodIn_sub (fun _ h => List.mem_cons_of_mem _ (List.mem_append_right _ h)) (by decide +kernel))
set_option maxRecDepth 20000 in
theorem gX8_isCold_X8_taskAt : GoodIn wsX8_isCold (wsV RX8 102 RX8 yX8_taskAt wsX8_taskAt) := goodIn_app (goodIn_of _ (by decide +kernel)) ggX8_isCold_X8_taskAt
theorem dX8_isCold_0 : decode cX8_isCold 0 = .ok (.aload_n 0, 1) := by decide +kernel
theorem dX8_isCold_1 : decode cX8_isCold 1 = .ok (.iload_n 1, 1) := by decide +kernel
theorem dX8_isCold_2 : decode cX8_isCold 2 = .ok (.invokevirtual 102, 3) := by decide +kernel
theorem dX8_isCold_5 : decode cX8_isCold 5 = .ok (.getfield 120, 3) := by decide +kernel
theorem dX8_isCold_8 : decode cX8_isCold 8 = .ok (.ifCond .le 7, 3) := by decide +kernel
theorem dX8_isCold_11 : decode cX8_isCold 11 = .ok (.iconst 1, 1) := by decide +kernel
theorem dX8_isCold_12 : decode cX8_isCold 12 = .ok (.goto 4, 3) := by decide +kernel
theorem dX8_isCold_15 : decode cX8_isCold 15 = .ok (.iconst 0, 1) := by decide +kernel
theorem dX8_isCold_16 : decode cX8_isCold 16 = .ok (.ireturn, 1) := by decide +kernel
set_option maxRecDepth 20000 in
theorem ggX8_pass_X8_isFrom : GoodIn wsX8_pass wsX8_isFrom := goodIn_r _ [9] (by decide +kernel) (by decide +kernel)
set_option maxRecDepth 20000 in
theorem gX8_pass_X8_isFrom : GoodIn wsX8_pass (va_wsS RX8 91 yX8_isFrom wsX8_isFrom) := goodIn_app (goodIn_of _ (by decide +kernel)) ggX8_pass_X8_isFrom
set_option maxRecDepth 20000 in
theorem ggX8_pass_X8_oneTick : GoodIn wsX8_pass wsX8_oneTick := goodIn_r _ [13, 5, 14, 15, 16, 17, 18, 19, 20, 21, 22, 23, 24, 25, 26, 27, 28, 29, 30, 8, 31, 32, 33, 34, 35, 36, 37, 38, 39, 40, 41, 42, 43, 44, 45, 46, 47, 48, 49, 50, 51, 52, 53, 54, 55, 56, 57, 58, 59, 60, 61, 62, 63, 64, 65, 66, 67, 68, 69, 70, 71, 72, 73, 74, 75, 76, 77, 78, 79, 80, 81, 82, 83, 84, 85, 86, 87, 88, 89, 90, 91, 92, 93, 94, 95, 96, 97, 98, 99, 100, 101, 102, 103, 104, 105, 106, 107, 108, 109, 110, 111, 112, 113, 114, 115, 116, 117, 118, 119, 120, 121, 122, 123, 124, 125, 126, 127, 128, 129, 130, 131, 132, 133, 134, 135, 136, 137, 138, 139, 140, 141, 142, 143, 144, 145, 146, 147, 148, 149, 150, 151, 152, 153, 154, 155, 156, 157, 158, 159, 160, 161, 162, 163, 164, 165, 166, 167, 168, 169, 170, 171, 172, 173, 174, 175, 176, 177, 178, 179, 180, 181, 182, 183, 184, 185, 186, 187, 188, 189, 190, 191, 192, 193, 194, 195, 196, 197, 198, 199, 200, 201, 202, 203, 204, 205, 206, 207, 208, 209, 210, 211, 212, 213, 214, 215, 216, 217, 218, 219, 220, 221, 222, 223, 224, 225, 226, 227, 228, 229, 230, 231, 232, 233, 234, 235, 236, 237, 238, 239, 240, 241, 242, 243, 244, 245, 246, 247, 248, 249, 250, 251, 252, 253, 254, 255, 256, 257, 258, 259, 260, 261, 262, 263, 264, 265, 266, 267, 268, 269, 270, 271, 272, 273, 274, 275, 276, 277, 278, 279, 280, 281, 282, 283, 284, 285, 286, 287, 288, 289, 290, 291, 292, 293, 294, 295, 296, 297, 298, 299, 300, 301, 302, 303, 304, 305, 306, 307, 308, 309, 310, 311, 312, 313, 314, 315, 316, 317, 318, 319, 320, 321, 322, 323, 324, 325, 326, 327, 328, 329, 330, 331, 332, 333, 334, 335, 336, 337, 338, 339, 340, 341, 342, 343, 344, 345, 346, 347, 348, 349, 350, 351, 352, 353, 354, 355, 356, 357, 358, 359, 360, 361, 362, 363, 364, 365, 366, 367, 368, 369, 370, 371, 372, 373, 374, 375, 376, 377, 378, 379, 380, 381, 382, 383, 384, 385, 386, 387, 388, 389] (by decide +kernel) (by decide +kernel)
set_option maxRecDepth 20000 in
theorem gX8_pass_X8_oneTick : GoodIn wsX8_pass (wsV RX8 136 RX8 yX8_oneTick wsX8_oneTick) := goodIn_app (goodIn_of _ (by decide +kernel)) ggX8_pass_X8_oneTick
theorem dX8_pass_0 : decode cX8_pass 0 = .ok (.iconst 1, 1) := by decide +kernel
theorem dX8_pass_1 : decode cX8_pass 1 = .ok (.iload_n 1, 1) := by decide +kernel
theorem dX8_pass_2 : decode cX8_pass 2 = .ok (.bipush 100, 2) := by decide +kernel
theorem dX8_pass_4 : decode cX8_pass 4 = .ok (.invokestatic 91, 3) := by decide +kernel
theorem dX8_pass_7 : decode cX8_pass 7 = .ok (.ifCond .ne 13, 3) := by decide +kernel
theorem dX8_pass_10 : decode cX8_pass 10 = .ok (.new 71, 3) := by decide +kernel
theorem dX8_pass_13 : decode cX8_pass 13 = .ok (.dup, 1) := by decide +kernel
theorem dX8_pass_14 : decode cX8_pass 14 = .ok (.ldc 95, 2) := by decide +kernel
theorem dX8_pass_16 : decode cX8_pass 16 = .ok (.invokespecial 75, 3) := by decide +kernel
theorem dX8_pass_19 : decode cX8_pass 19 = .ok (.athrow, 1) := by decide +kernel
theorem dX8_pass_20 : decode cX8_pass 20 = .ok (.aload_n 0, 1) := by decide +kernel
theorem dX8_pass_21 : decode cX8_pass 21 = .ok (.getfield 58, 3) := by decide +kernel
theorem dX8_pass_24 : decode cX8_pass 24 = .ok (.iload_n 1, 1) := by decide +kernel
theorem dX8_pass_25 : decode cX8_pass 25 = .ok (.iadd, 1) := by decide +kernel
theorem dX8_pass_26 : decode cX8_pass 26 = .ok (.sipush 9999, 3) := by decide +kernel
theorem dX8_pass_29 : decode cX8_pass 29 = .ok (.if_icmp .le 13, 3) := by decide +kernel
theorem dX8_pass_32 : decode cX8_pass 32 = .ok (.new 81, 3) := by decide +kernel
theorem dX8_pass_35 : decode cX8_pass 35 = .ok (.dup, 1) := by decide +kernel
theorem dX8_pass_36 : decode cX8_pass 36 = .ok (.ldc 134, 2) := by decide +kernel
theorem dX8_pass_38 : decode cX8_pass 38 = .ok (.invokespecial 85, 3) := by decide +kernel
theorem dX8_pass_41 : decode cX8_pass 41 = .ok (.athrow, 1) := by decide +kernel
theorem dX8_pass_42 : decode cX8_pass 42 = .ok (.iconst 0, 1) := by decide +kernel
theorem dX8_pass_43 : decode cX8_pass 43 = .ok (.istore_n 2, 1) := by decide +kernel
theorem dX8_pass_44 : decode cX8_pass 44 = .ok (.iload_n 2, 1) := by decide +kernel
theorem dX8_pass_45 : decode cX8_pass 45 = .ok (.iload_n 1, 1) := by decide +kernel
theorem dX8_pass_46 : decode cX8_pass 46 = .ok (.if_icmp .ge 13, 3) := by decide +kernel
theorem dX8_pass_49 : decode cX8_pass 49 = .ok (.aload_n 0, 1) := by decide +kernel
theorem dX8_pass_50 : decode cX8_pass 50 = .ok (.invokevirtual 136, 3) := by decide +kernel
theorem dX8_pass_53 : decode cX8_pass 53 = .ok (.iinc 2 1, 3) := by decide +kernel
theorem dX8_pass_56 : decode cX8_pass 56 = .ok (.goto (-12), 3) := by decide +kernel
theorem dX8_pass_59 : decode cX8_pass 59 = .ok (.aload_n 0, 1) := by decide +kernel
theorem dX8_pass_60 : decode cX8_pass 60 = .ok (.getfield 58, 3) := by decide +kernel
theorem dX8_pass_63 : decode cX8_pass 63 = .ok (.ireturn, 1) := by decide +kernel
set_option maxRecDepth 20000 in
theorem ggX8_speed_X8_coreAt : GoodIn wsX8_speed wsX8_coreAt := goodIn_ca (goodIn_r _ [6, 7, 8, 9, 30, 31, 32, 33, 34, 35, 36, 37, 38, 39] (by decide +kernel) (by decide +kernel)) (goodIn_sub (fun _ h => List.mem_cons_of_mem _ (List.mem_append_right _ h)) (by decide +kernel))
set_option maxRecDepth 20000 in
theorem gX8_speed_X8_coreAt : GoodIn wsX8_speed (wsV RX8 86 RX8 yX8_coreAt wsX8_coreAt) := goodIn_app (goodIn_of _ (by decide +kernel)) ggX8_speed_X8_coreAt
theorem dX8_speed_0 : decode cX8_speed 0 = .ok (.aload_n 0, 1) := by decide +kernel
theorem dX8_speed_1 : decode cX8_speed 1 = .ok (.iload_n 1, 1) := by decide +kernel
theorem dX8_speed_2 : decode cX8_speed 2 = .ok (.invokevirtual 86, 3) := by decide +kernel
theorem dX8_speed_5 : decode cX8_speed 5 = .ok (.getfield 139, 3) := by decide +kernel
theorem dX8_speed_8 : decode cX8_speed 8 = .ok (.ireturn, 1) := by decide +kernel
set_option maxRecDepth 20000 in
theorem ggX8_wanted_X8_coreAt : GoodIn wsX8_wanted wsX8_coreAt := goodIn_ca (goodIn_r _ [6, 7, 8, 9, 30, 31, 32, 33, 34, 35, 36, 37, 38, 39] (by decide +kernel) (by decide +kernel)) (goodIn_sub (fun _ h => List.mem_cons_of_mem _ (List.mem_append_right _ h)) (by decide +kernel))
set_option maxRecDepth 20000 in
theorem gX8_wanted_X8_coreAt : GoodIn wsX8_wanted (wsV RX8 86 RX8 yX8_coreAt wsX8_coreAt) := goodIn_app (goodIn_of _ (by decide +kernel)) ggX8_wanted_X8_coreAt
theorem dX8_wanted_0 : decode cX8_wanted 0 = .ok (.aload_n 0, 1) := by decide +kernel
theorem dX8_wanted_1 : decode cX8_wanted 1 = .ok (.iload_n 1, 1) := by decide +kernel
theorem dX8_wanted_2 : decode cX8_wanted 2 = .ok (.invokevirtual 86, 3) := by decide +kernel
theorem dX8_wanted_5 : decode cX8_wanted 5 = .ok (.getfield 142, 3) := by decide +kernel
theorem dX8_wanted_8 : decode cX8_wanted 8 = .ok (.ireturn, 1) := by decide +kernel
set_option maxRecDepth 20000 in
theorem ggX8_clamp_X8_coreAt : GoodIn wsX8_clamp wsX8_coreAt := goodIn_ca (goodIn_r _ [6, 7, 8, 9, 30, 31, 32, 33, 34, 35, 36, 37, 38, 39] (by decide +kernel) (by decide +kernel)) (goodIn_sub (fun _ h => List.mem_cons_of_mem _ (List.mem_append_right _ h)) (by decide +kernel))
set_option maxRecDepth 20000 in
theorem gX8_clamp_X8_coreAt : GoodIn wsX8_clamp (wsV RX8 86 RX8 yX8_coreAt wsX8_coreAt) := goodIn_app (goodIn_of _ (by decide +kernel)) ggX8_clamp_X8_coreAt
theorem dX8_clamp_0 : decode cX8_clamp 0 = .ok (.aload_n 0, 1) := by decide +kernel
theorem dX8_clamp_1 : decode cX8_clamp 1 = .ok (.iload_n 1, 1) := by decide +kernel
theorem dX8_clamp_2 : decode cX8_clamp 2 = .ok (.invokevirtual 86, 3) := by decide +kernel
theorem dX8_clamp_5 : decode cX8_clamp 5 = .ok (.getfield 145, 3) := by decide +kernel
theorem dX8_clamp_8 : decode cX8_clamp 8 = .ok (.ireturn, 1) := by decide +kernel
set_option maxRecDepth 20000 in
theorem ggX8_sleep_X8_coreAt : GoodIn wsX8_sleep wsX8_coreAt := goodIn_ca (goodIn_r _ [6, 7, 8, 9, 30, 31, 32, 33, 34, 35, 36, 37, 38, 39] (by decide +kernel) (by decide +kernel)) (goodIn_sub (fun _ h => List.mem_cons_of_mem _ (List.mem_append_right _ h)) (by decide +kernel))
set_option maxRecDepth 20000 in
theorem gX8_sleep_X8_coreAt : GoodIn wsX8_sleep (wsV RX8 86 RX8 yX8_coreAt wsX8_coreAt) := goodIn_app (goodIn_of _ (by decide +kernel)) ggX8_sleep_X8_coreAt
theorem dX8_sleep_0 : decode cX8_sleep 0 = .ok (.aload_n 0, 1) := by decide +kernel
theorem dX8_sleep_1 : decode cX8_sleep 1 = .ok (.iload_n 1, 1) := by decide +kernel
theorem dX8_sleep_2 : decode cX8_sleep 2 = .ok (.invokevirtual 86, 3) := by decide +kernel
theorem dX8_sleep_5 : decode cX8_sleep 5 = .ok (.getfield 148, 3) := by decide +kernel
theorem dX8_sleep_8 : decode cX8_sleep 8 = .ok (.ireturn, 1) := by decide +kernel
set_option maxRecDepth 20000 in
theorem ggX8_isBusy_X8_coreAt : GoodIn wsX8_isBusy wsX8_coreAt := goodIn_ca (goodIn_r _ [5, 6, 7, 8, 16, 17, 18, 19, 20, 21, 22, 23, 24, 25] (by decide +kernel) (by decide +kernel)) (goodIn_sub (fun _ h => List.mem_cons_of_mem _ (List.mem_append_right _ h)) (by decide +kernel))
set_option maxRecDepth 20000 in
theorem gX8_isBusy_X8_coreAt : GoodIn wsX8_isBusy (wsV RX8 86 RX8 yX8_coreAt wsX8_coreAt) := goodIn_app (goodIn_of _ (by decide +kernel)) ggX8_isBusy_X8_coreAt
set_option maxRecDepth 20000 in
theorem ggX8_isBusy_X8_runningOn : GoodIn wsX8_isBusy wsX8_runningOn := goodIn_r _ [12, 13, 14, 15, 16, 17, 18, 19, 20, 21, 22, 23, 24, 25, 26, 27, 28, 29] (by decide +kernel) (by decide +kernel)
set_option maxRecDepth 20000 in
theorem gX8_isBusy_X8_runningOn : GoodIn wsX8_isBusy (wsV RX8 151 RX8 yX8_runningOn wsX8_runningOn) := goodIn_app (goodIn_of _ (by decide +kernel)) ggX8_isBusy_X8_runningOn
theorem dX8_isBusy_0 : decode cX8_isBusy 0 = .ok (.aload_n 0, 1) := by decide +kernel
theorem dX8_isBusy_1 : decode cX8_isBusy 1 = .ok (.iload_n 1, 1) := by decide +kernel
theorem dX8_isBusy_2 : decode cX8_isBusy 2 = .ok (.invokevirtual 86, 3) := by decide +kernel
theorem dX8_isBusy_5 : decode cX8_isBusy 5 = .ok (.pop, 1) := by decide +kernel
theorem dX8_isBusy_6 : decode cX8_isBusy 6 = .ok (.aload_n 0, 1) := by decide +kernel
theorem dX8_isBusy_7 : decode cX8_isBusy 7 = .ok (.iload_n 1, 1) := by decide +kernel
theorem dX8_isBusy_8 : decode cX8_isBusy 8 = .ok (.invokevirtual 151, 3) := by decide +kernel
theorem dX8_isBusy_11 : decode cX8_isBusy 11 = .ok (.ifnull 7, 3) := by decide +kernel
theorem dX8_isBusy_14 : decode cX8_isBusy 14 = .ok (.iconst 1, 1) := by decide +kernel
theorem dX8_isBusy_15 : decode cX8_isBusy 15 = .ok (.goto 4, 3) := by decide +kernel
theorem dX8_isBusy_18 : decode cX8_isBusy 18 = .ok (.iconst 0, 1) := by decide +kernel
theorem dX8_isBusy_19 : decode cX8_isBusy 19 = .ok (.ireturn, 1) := by decide +kernel
set_option maxRecDepth 20000 in
theorem ggX8_need_X8_coreAt : GoodIn wsX8_need wsX8_coreAt := goodIn_ca (goodIn_r _ [7, 8, 9, 10, 38, 39, 40, 41, 42, 43, 44, 45, 46, 47] (by decide +kernel) (by decide +kernel)) (goodIn_sub (fun _ h => List.mem_cons_of_mem _ (List.mem_append_right _ h)) (by decide +kernel))
set_option maxRecDepth 20000 in
theorem gX8_need_X8_coreAt : GoodIn wsX8_need (wsV RX8 86 RX8 yX8_coreAt wsX8_coreAt) := goodIn_app (goodIn_of _ (by decide +kernel)) ggX8_need_X8_coreAt
set_option maxRecDepth 20000 in
theorem ggX8_need_X3_greatestSpeed : GoodIn wsX8_need wsX3_greatestSpeed := goodIn_r _ [15, 16, 48, 49, 50, 51, 52, 53, 54, 55, 56, 57, 58, 59, 60, 61, 62, 63, 64, 65, 66, 67] (by decide +kernel) (by decide +kernel)
set_option maxRecDepth 20000 in
theorem gX8_need_X3_greatestSpeed : GoodIn wsX8_need (wsV RX8 154 RX3 yX3_greatestSpeed wsX3_greatestSpeed) := goodIn_app (goodIn_of _ (by decide +kernel)) ggX8_need_X3_greatestSpeed
set_option maxRecDepth 20000 in
theorem ggX8_need_X8_isFrom : GoodIn wsX8_need wsX8_isFrom := goodIn_r _ [19] (by decide +kernel) (by decide +kernel)
set_option maxRecDepth 20000 in
theorem gX8_need_X8_isFrom : GoodIn wsX8_need (va_wsS RX8 91 yX8_isFrom wsX8_isFrom) := goodIn_app (goodIn_of _ (by decide +kernel)) ggX8_need_X8_isFrom
set_option maxRecDepth 20000 in
theorem ggX8_need_X3_voltsFor : GoodIn wsX8_need wsX3_voltsFor := goodIn_r _ [23, 24, 25, 26, 27, 28, 29, 30, 31, 32, 33, 34, 35, 14, 36, 37, 48, 49, 50, 51, 52, 53, 54, 55, 56, 57, 58, 59, 60, 61, 62, 63, 64, 65, 66, 67, 68, 69, 70, 71, 72] (by decide +kernel) (by decide +kernel)
set_option maxRecDepth 20000 in
theorem gX8_need_X3_voltsFor : GoodIn wsX8_need (wsV RX8 160 RX3 yX3_voltsFor wsX3_voltsFor) := goodIn_app (goodIn_of _ (by decide +kernel)) ggX8_need_X3_voltsFor
theorem dX8_need_0 : decode cX8_need 0 = .ok (.aload_n 0, 1) := by decide +kernel
theorem dX8_need_1 : decode cX8_need 1 = .ok (.iload_n 1, 1) := by decide +kernel
theorem dX8_need_2 : decode cX8_need 2 = .ok (.invokevirtual 86, 3) := by decide +kernel
theorem dX8_need_5 : decode cX8_need 5 = .ok (.astore_n 3, 1) := by decide +kernel
theorem dX8_need_6 : decode cX8_need 6 = .ok (.iconst 0, 1) := by decide +kernel
theorem dX8_need_7 : decode cX8_need 7 = .ok (.iload_n 2, 1) := by decide +kernel
theorem dX8_need_8 : decode cX8_need 8 = .ok (.aload_n 3, 1) := by decide +kernel
theorem dX8_need_9 : decode cX8_need 9 = .ok (.invokevirtual 154, 3) := by decide +kernel
theorem dX8_need_12 : decode cX8_need 12 = .ok (.invokestatic 91, 3) := by decide +kernel
theorem dX8_need_15 : decode cX8_need 15 = .ok (.ifCond .ne 13, 3) := by decide +kernel
theorem dX8_need_18 : decode cX8_need 18 = .ok (.new 71, 3) := by decide +kernel
theorem dX8_need_21 : decode cX8_need 21 = .ok (.dup, 1) := by decide +kernel
theorem dX8_need_22 : decode cX8_need 22 = .ok (.ldc 158, 2) := by decide +kernel
theorem dX8_need_24 : decode cX8_need 24 = .ok (.invokespecial 75, 3) := by decide +kernel
theorem dX8_need_27 : decode cX8_need 27 = .ok (.athrow, 1) := by decide +kernel
theorem dX8_need_28 : decode cX8_need 28 = .ok (.aload_n 3, 1) := by decide +kernel
theorem dX8_need_29 : decode cX8_need 29 = .ok (.iload_n 2, 1) := by decide +kernel
theorem dX8_need_30 : decode cX8_need 30 = .ok (.invokevirtual 160, 3) := by decide +kernel
theorem dX8_need_33 : decode cX8_need 33 = .ok (.ireturn, 1) := by decide +kernel
set_option maxRecDepth 20000 in
theorem ggX8_volts_X8_railAt : GoodIn wsX8_volts wsX8_railAt := goodIn_ca (goodIn_r _ [6, 7, 8, 9, 12, 13, 14, 15, 16, 17, 18, 19, 20, 21] (by decide +kernel) (by decide +kernel)) (goodIn_sub (fun _ h => List.mem_cons_of_mem _ (List.mem_append_right _ h)) (by decide +kernel))
set_option maxRecDepth 20000 in
theorem gX8_volts_X8_railAt : GoodIn wsX8_volts (wsV RX8 67 RX8 yX8_railAt wsX8_railAt) := goodIn_app (goodIn_of _ (by decide +kernel)) ggX8_volts_X8_railAt
theorem dX8_volts_0 : decode cX8_volts 0 = .ok (.aload_n 0, 1) := by decide +kernel
theorem dX8_volts_1 : decode cX8_volts 1 = .ok (.iload_n 1, 1) := by decide +kernel
theorem dX8_volts_2 : decode cX8_volts 2 = .ok (.invokevirtual 67, 3) := by decide +kernel
theorem dX8_volts_5 : decode cX8_volts 5 = .ok (.getfield 164, 3) := by decide +kernel
theorem dX8_volts_8 : decode cX8_volts 8 = .ok (.ireturn, 1) := by decide +kernel
set_option maxRecDepth 20000 in
theorem ggX8_heat_X8_coreAt : GoodIn wsX8_heat wsX8_coreAt := goodIn_ca (goodIn_r _ [7, 8, 9, 10, 40, 41, 42, 43, 44, 45, 46, 47, 48, 49] (by decide +kernel) (by decide +kernel)) (goodIn_sub (fun _ h => List.mem_cons_of_mem _ (List.mem_append_right _ h)) (by decide +kernel))
set_option maxRecDepth 20000 in
theorem gX8_heat_X8_coreAt : GoodIn wsX8_heat (wsV RX8 86 RX8 yX8_coreAt wsX8_coreAt) := goodIn_app (goodIn_of _ (by decide +kernel)) ggX8_heat_X8_coreAt
set_option maxRecDepth 20000 in
theorem ggX8_heat_X0_lowBits : GoodIn wsX8_heat wsX0_lowBits := goodIn_r _ [15, 16, 50, 51] (by decide +kernel) (by decide +kernel)
set_option maxRecDepth 20000 in
theorem gX8_heat_X0_lowBits : GoodIn wsX8_heat (wsV RX8 176 RX0 yX0_lowBits wsX0_lowBits) := goodIn_app (goodIn_of _ (by decide +kernel)) ggX8_heat_X0_lowBits
theorem dX8_heat_0 : decode cX8_heat 0 = .ok (.aload_n 0, 1) := by decide +kernel
theorem dX8_heat_1 : decode cX8_heat 1 = .ok (.iload_n 1, 1) := by decide +kernel
theorem dX8_heat_2 : decode cX8_heat 2 = .ok (.invokevirtual 86, 3) := by decide +kernel
theorem dX8_heat_5 : decode cX8_heat 5 = .ok (.getfield 167, 3) := by decide +kernel
theorem dX8_heat_8 : decode cX8_heat 8 = .ok (.getfield 171, 3) := by decide +kernel
theorem dX8_heat_11 : decode cX8_heat 11 = .ok (.invokevirtual 176, 3) := by decide +kernel
theorem dX8_heat_14 : decode cX8_heat 14 = .ok (.l2i, 1) := by decide +kernel
theorem dX8_heat_15 : decode cX8_heat 15 = .ok (.ireturn, 1) := by decide +kernel
set_option maxRecDepth 20000 in
theorem ggX8_degrees_X8_coreAt : GoodIn wsX8_degrees wsX8_coreAt := goodIn_ca (goodIn_r _ [7, 8, 9, 10, 40, 41, 42, 43, 44, 45, 46, 47, 48, 49] (by decide +kernel) (by decide +kernel)) (goodIn_sub (fun _ h => List.mem_cons_of_mem _ (List.mem_append_right _ h)) (by decide +kernel))
set_option maxRecDepth 20000 in
theorem gX8_degrees_X8_coreAt : GoodIn wsX8_degrees (wsV RX8 86 RX8 yX8_coreAt wsX8_coreAt) := goodIn_app (goodIn_of _ (by decide +kernel)) ggX8_degrees_X8_coreAt
set_option maxRecDepth 20000 in
theorem ggX8_degrees_X0_lowBits : GoodIn wsX8_degrees wsX0_lowBits := goodIn_r _ [15, 16, 50, 51] (by decide +kernel) (by decide +kernel)
set_option maxRecDepth 20000 in
theorem gX8_degrees_X0_lowBits : GoodIn wsX8_degrees (wsV RX8 176 RX0 yX0_lowBits wsX0_lowBits) := goodIn_app (goodIn_of _ (by decide +kernel)) ggX8_degrees_X0_lowBits
theorem dX8_degrees_0 : decode cX8_degrees 0 = .ok (.aload_n 0, 1) := by decide +kernel
theorem dX8_degrees_1 : decode cX8_degrees 1 = .ok (.iload_n 1, 1) := by decide +kernel
theorem dX8_degrees_2 : decode cX8_degrees 2 = .ok (.invokevirtual 86, 3) := by decide +kernel
theorem dX8_degrees_5 : decode cX8_degrees 5 = .ok (.getfield 167, 3) := by decide +kernel
theorem dX8_degrees_8 : decode cX8_degrees 8 = .ok (.getfield 180, 3) := by decide +kernel
theorem dX8_degrees_11 : decode cX8_degrees 11 = .ok (.invokevirtual 176, 3) := by decide +kernel
theorem dX8_degrees_14 : decode cX8_degrees 14 = .ok (.l2i, 1) := by decide +kernel
theorem dX8_degrees_15 : decode cX8_degrees 15 = .ok (.ireturn, 1) := by decide +kernel
set_option maxRecDepth 20000 in
theorem ggX8_caseDegrees_X0_lowBits : GoodIn wsX8_caseDegrees wsX0_lowBits := goodIn_r _ [8, 9, 28, 29] (by decide +kernel) (by decide +kernel)
set_option maxRecDepth 20000 in
theorem gX8_caseDegrees_X0_lowBits : GoodIn wsX8_caseDegrees (wsV RX8 176 RX0 yX0_lowBits wsX0_lowBits) := goodIn_app (goodIn_of _ (by decide +kernel)) ggX8_caseDegrees_X0_lowBits
theorem dX8_caseDegrees_0 : decode cX8_caseDegrees 0 = .ok (.aload_n 0, 1) := by decide +kernel
theorem dX8_caseDegrees_1 : decode cX8_caseDegrees 1 = .ok (.getfield 30, 3) := by decide +kernel
theorem dX8_caseDegrees_4 : decode cX8_caseDegrees 4 = .ok (.getfield 183, 3) := by decide +kernel
theorem dX8_caseDegrees_7 : decode cX8_caseDegrees 7 = .ok (.getfield 180, 3) := by decide +kernel
theorem dX8_caseDegrees_10 : decode cX8_caseDegrees 10 = .ok (.invokevirtual 176, 3) := by decide +kernel
theorem dX8_caseDegrees_13 : decode cX8_caseDegrees 13 = .ok (.l2i, 1) := by decide +kernel
theorem dX8_caseDegrees_14 : decode cX8_caseDegrees 14 = .ok (.ireturn, 1) := by decide +kernel
set_option maxRecDepth 20000 in
theorem ggX8_sensor_X8_coreAt : GoodIn wsX8_sensor wsX8_coreAt := goodIn_ca (goodIn_r _ [9, 10, 11, 12, 33, 34, 35, 36, 37, 38, 39, 40, 41, 42] (by decide +kernel) (by decide +kernel)) (goodIn_sub (fun _ h => List.mem_cons_of_mem _ (List.mem_append_right _ h)) (by decide +kernel))
set_option maxRecDepth 20000 in
theorem gX8_sensor_X8_coreAt : GoodIn wsX8_sensor (wsV RX8 86 RX8 yX8_coreAt wsX8_coreAt) := goodIn_app (goodIn_of _ (by decide +kernel)) ggX8_sensor_X8_coreAt
theorem dX8_sensor_0 : decode cX8_sensor 0 = .ok (.aload_n 0, 1) := by decide +kernel
theorem dX8_sensor_1 : decode cX8_sensor 1 = .ok (.iload_n 1, 1) := by decide +kernel
theorem dX8_sensor_2 : decode cX8_sensor 2 = .ok (.invokevirtual 86, 3) := by decide +kernel
theorem dX8_sensor_5 : decode cX8_sensor 5 = .ok (.astore_n 2, 1) := by decide +kernel
theorem dX8_sensor_6 : decode cX8_sensor 6 = .ok (.aload_n 2, 1) := by decide +kernel
theorem dX8_sensor_7 : decode cX8_sensor 7 = .ok (.getfield 186, 3) := by decide +kernel
theorem dX8_sensor_10 : decode cX8_sensor 10 = .ok (.ifCond .eq 13, 3) := by decide +kernel
theorem dX8_sensor_13 : decode cX8_sensor 13 = .ok (.new 190, 3) := by decide +kernel
theorem dX8_sensor_16 : decode cX8_sensor 16 = .ok (.dup, 1) := by decide +kernel
theorem dX8_sensor_17 : decode cX8_sensor 17 = .ok (.ldc 192, 2) := by decide +kernel
theorem dX8_sensor_19 : decode cX8_sensor 19 = .ok (.invokespecial 194, 3) := by decide +kernel
theorem dX8_sensor_22 : decode cX8_sensor 22 = .ok (.athrow, 1) := by decide +kernel
theorem dX8_sensor_23 : decode cX8_sensor 23 = .ok (.aload_n 2, 1) := by decide +kernel
theorem dX8_sensor_24 : decode cX8_sensor 24 = .ok (.getfield 195, 3) := by decide +kernel
theorem dX8_sensor_27 : decode cX8_sensor 27 = .ok (.ireturn, 1) := by decide +kernel
set_option maxRecDepth 20000 in
theorem ggX8_lose_X8_coreAt : GoodIn wsX8_lose wsX8_coreAt := goodIn_ca (goodIn_r _ [6, 7, 8, 9, 30, 31, 32, 33, 34, 35, 36, 37, 38, 39] (by decide +kernel) (by decide +kernel)) (goodIn_sub (fun _ h => List.mem_cons_of_mem _ (List.mem_append_right _ h)) (by decide +kernel))
set_option maxRecDepth 20000 in
theorem gX8_lose_X8_coreAt : GoodIn wsX8_lose (wsV RX8 86 RX8 yX8_coreAt wsX8_coreAt) := goodIn_app (goodIn_of _ (by decide +kernel)) ggX8_lose_X8_coreAt
theorem dX8_lose_0 : decode cX8_lose 0 = .ok (.aload_n 0, 1) := by decide +kernel
theorem dX8_lose_1 : decode cX8_lose 1 = .ok (.iload_n 1, 1) := by decide +kernel
theorem dX8_lose_2 : decode cX8_lose 2 = .ok (.invokevirtual 86, 3) := by decide +kernel
theorem dX8_lose_5 : decode cX8_lose 5 = .ok (.astore_n 3, 1) := by decide +kernel
theorem dX8_lose_6 : decode cX8_lose 6 = .ok (.aload_n 3, 1) := by decide +kernel
theorem dX8_lose_7 : decode cX8_lose 7 = .ok (.getfield 186, 3) := by decide +kernel
theorem dX8_lose_10 : decode cX8_lose 10 = .ok (.istore 4, 2) := by decide +kernel
theorem dX8_lose_12 : decode cX8_lose 12 = .ok (.aload_n 3, 1) := by decide +kernel
theorem dX8_lose_13 : decode cX8_lose 13 = .ok (.iload_n 2, 1) := by decide +kernel
theorem dX8_lose_14 : decode cX8_lose 14 = .ok (.putfield 186, 3) := by decide +kernel
theorem dX8_lose_17 : decode cX8_lose 17 = .ok (.iload 4, 2) := by decide +kernel
theorem dX8_lose_19 : decode cX8_lose 19 = .ok (.ireturn, 1) := by decide +kernel
set_option maxRecDepth 20000 in
theorem ggX8_isTripped_X8_coreAt : GoodIn wsX8_isTripped wsX8_coreAt := goodIn_ca (goodIn_r _ [6, 7, 8, 9, 30, 31, 32, 33, 34, 35, 36, 37, 38, 39] (by decide +kernel) (by decide +kernel)) (goodIn_sub (fun _ h => List.mem_cons_of_mem _ (List.mem_append_right _ h)) (by decide +kernel))
set_option maxRecDepth 20000 in
theorem gX8_isTripped_X8_coreAt : GoodIn wsX8_isTripped (wsV RX8 86 RX8 yX8_coreAt wsX8_coreAt) := goodIn_app (goodIn_of _ (by decide +kernel)) ggX8_isTripped_X8_coreAt
theorem dX8_isTripped_0 : decode cX8_isTripped 0 = .ok (.aload_n 0, 1) := by decide +kernel
theorem dX8_isTripped_1 : decode cX8_isTripped 1 = .ok (.iload_n 1, 1) := by decide +kernel
theorem dX8_isTripped_2 : decode cX8_isTripped 2 = .ok (.invokevirtual 86, 3) := by decide +kernel
theorem dX8_isTripped_5 : decode cX8_isTripped 5 = .ok (.getfield 198, 3) := by decide +kernel
theorem dX8_isTripped_8 : decode cX8_isTripped 8 = .ok (.ireturn, 1) := by decide +kernel
theorem dX8_fan_0 : decode cX8_fan 0 = .ok (.aload_n 0, 1) := by decide +kernel
theorem dX8_fan_1 : decode cX8_fan 1 = .ok (.getfield 30, 3) := by decide +kernel
theorem dX8_fan_4 : decode cX8_fan 4 = .ok (.getfield 201, 3) := by decide +kernel
theorem dX8_fan_7 : decode cX8_fan 7 = .ok (.ireturn, 1) := by decide +kernel
theorem dX8_killFan_0 : decode cX8_killFan 0 = .ok (.aload_n 0, 1) := by decide +kernel
theorem dX8_killFan_1 : decode cX8_killFan 1 = .ok (.getfield 30, 3) := by decide +kernel
theorem dX8_killFan_4 : decode cX8_killFan 4 = .ok (.getfield 204, 3) := by decide +kernel
theorem dX8_killFan_7 : decode cX8_killFan 7 = .ok (.istore_n 2, 1) := by decide +kernel
theorem dX8_killFan_8 : decode cX8_killFan 8 = .ok (.aload_n 0, 1) := by decide +kernel
theorem dX8_killFan_9 : decode cX8_killFan 9 = .ok (.getfield 30, 3) := by decide +kernel
theorem dX8_killFan_12 : decode cX8_killFan 12 = .ok (.iload_n 1, 1) := by decide +kernel
theorem dX8_killFan_13 : decode cX8_killFan 13 = .ok (.putfield 204, 3) := by decide +kernel
theorem dX8_killFan_16 : decode cX8_killFan 16 = .ok (.iload_n 1, 1) := by decide +kernel
theorem dX8_killFan_17 : decode cX8_killFan 17 = .ok (.ifCond .eq 11, 3) := by decide +kernel
theorem dX8_killFan_20 : decode cX8_killFan 20 = .ok (.aload_n 0, 1) := by decide +kernel
theorem dX8_killFan_21 : decode cX8_killFan 21 = .ok (.getfield 30, 3) := by decide +kernel
theorem dX8_killFan_24 : decode cX8_killFan 24 = .ok (.iconst 0, 1) := by decide +kernel
theorem dX8_killFan_25 : decode cX8_killFan 25 = .ok (.putfield 201, 3) := by decide +kernel
theorem dX8_killFan_28 : decode cX8_killFan 28 = .ok (.iload_n 2, 1) := by decide +kernel
theorem dX8_killFan_29 : decode cX8_killFan 29 = .ok (.ireturn, 1) := by decide +kernel
set_option maxRecDepth 20000 in
theorem ggX8_heatUp_X8_coreAt : GoodIn wsX8_heatUp wsX8_coreAt := goodIn_ca (goodIn_r _ [15, 16, 17, 18, 96, 97, 98, 99, 100, 101, 102, 103, 104, 105] (by decide +kernel) (by decide +kernel)) (goodIn_sub (fun _ h => List.mem_cons_of_mem _ (List.mem_append_right _ h)) (by decide +kernel))
set_option maxRecDepth 20000 in
theorem gX8_heatUp_X8_coreAt : GoodIn wsX8_heatUp (wsV RX8 86 RX8 yX8_coreAt wsX8_coreAt) := goodIn_app (goodIn_of _ (by decide +kernel)) ggX8_heatUp_X8_coreAt
set_option maxRecDepth 20000 in
theorem ggX8_heatUp_X8_isFrom : GoodIn wsX8_heatUp wsX8_isFrom := goodIn_r _ [21] (by decide +kernel) (by decide +kernel)
set_option maxRecDepth 20000 in
theorem gX8_heatUp_X8_isFrom : GoodIn wsX8_heatUp (va_wsS RX8 91 yX8_isFrom wsX8_isFrom) := goodIn_app (goodIn_of _ (by decide +kernel)) ggX8_heatUp_X8_isFrom
set_option maxRecDepth 20000 in
theorem ggX8_heatUp_X0_upTo : GoodIn wsX8_heatUp wsX0_upTo := goodIn_r _ [26, 27, 28, 106, 107] (by decide +kernel) (by decide +kernel)
set_option maxRecDepth 20000 in
theorem gX8_heatUp_X0_upTo : GoodIn wsX8_heatUp (wsV RX8 207 RX0 yX0_upTo wsX0_upTo) := goodIn_app (goodIn_of _ (by decide +kernel)) ggX8_heatUp_X0_upTo
set_option maxRecDepth 20000 in
theorem ggX8_heatUp_X0_become : GoodIn wsX8_heatUp wsX0_become := goodIn_r _ [32, 28, 27, 33, 34, 35, 25, 36, 37, 38, 39, 40, 41, 42, 43, 44, 45, 46, 47, 106, 107] (by decide +kernel) (by decide +kernel)
set_option maxRecDepth 20000 in
theorem gX8_heatUp_X0_become : GoodIn wsX8_heatUp (wsV RX8 212 RX0 yX0_become wsX0_become) := goodIn_app (goodIn_of _ (by decide +kernel)) ggX8_heatUp_X0_become
set_option maxRecDepth 20000 in
theorem ggX8_heatUp_X1_gain : GoodIn wsX8_heatUp wsX1_gain := goodIn_r _ [52, 53, 54, 55, 56, 57, 58, 25, 59, 28, 60, 27, 33, 34, 35, 36, 37, 38, 39, 40, 41, 42, 43, 61, 62, 63, 64, 44, 45, 46, 47, 65, 66, 67, 68, 93, 94, 95, 106, 107] (by decide +kernel) (by decide +kernel)
set_option maxRecDepth 20000 in
theorem gX8_heatUp_X1_gain : GoodIn wsX8_heatUp (wsV RX8 216 RX1 yX1_gain wsX1_gain) := goodIn_app (goodIn_of _ (by decide +kernel)) ggX8_heatUp_X1_gain
set_option maxRecDepth 20000 in
theorem ggX8_heatUp_X0_lowBits : GoodIn wsX8_heatUp wsX0_lowBits := goodIn_r _ [72, 28, 106, 107] (by decide +kernel) (by decide +kernel)
set_option maxRecDepth 20000 in
theorem gX8_heatUp_X0_lowBits : GoodIn wsX8_heatUp (wsV RX8 176 RX0 yX0_lowBits wsX0_lowBits) := goodIn_app (goodIn_of _ (by decide +kernel)) ggX8_heatUp_X0_lowBits
theorem dX8_heatUp_0 : decode cX8_heatUp 0 = .ok (.aload_n 0, 1) := by decide +kernel
theorem dX8_heatUp_1 : decode cX8_heatUp 1 = .ok (.iload_n 1, 1) := by decide +kernel
theorem dX8_heatUp_2 : decode cX8_heatUp 2 = .ok (.invokevirtual 86, 3) := by decide +kernel
theorem dX8_heatUp_5 : decode cX8_heatUp 5 = .ok (.astore_n 3, 1) := by decide +kernel
theorem dX8_heatUp_6 : decode cX8_heatUp 6 = .ok (.iconst 1, 1) := by decide +kernel
theorem dX8_heatUp_7 : decode cX8_heatUp 7 = .ok (.iload_n 2, 1) := by decide +kernel
theorem dX8_heatUp_8 : decode cX8_heatUp 8 = .ok (.sipush 9999, 3) := by decide +kernel
theorem dX8_heatUp_11 : decode cX8_heatUp 11 = .ok (.invokestatic 91, 3) := by decide +kernel
theorem dX8_heatUp_14 : decode cX8_heatUp 14 = .ok (.ifCond .ne 13, 3) := by decide +kernel
theorem dX8_heatUp_17 : decode cX8_heatUp 17 = .ok (.new 71, 3) := by decide +kernel
theorem dX8_heatUp_20 : decode cX8_heatUp 20 = .ok (.dup, 1) := by decide +kernel
theorem dX8_heatUp_21 : decode cX8_heatUp 21 = .ok (.ldc 95, 2) := by decide +kernel
theorem dX8_heatUp_23 : decode cX8_heatUp 23 = .ok (.invokespecial 75, 3) := by decide +kernel
theorem dX8_heatUp_26 : decode cX8_heatUp 26 = .ok (.athrow, 1) := by decide +kernel
theorem dX8_heatUp_27 : decode cX8_heatUp 27 = .ok (.aload_n 3, 1) := by decide +kernel
theorem dX8_heatUp_28 : decode cX8_heatUp 28 = .ok (.getfield 167, 3) := by decide +kernel
theorem dX8_heatUp_31 : decode cX8_heatUp 31 = .ok (.getfield 171, 3) := by decide +kernel
theorem dX8_heatUp_34 : decode cX8_heatUp 34 = .ok (.ldc 90, 2) := by decide +kernel
theorem dX8_heatUp_36 : decode cX8_heatUp 36 = .ok (.invokevirtual 207, 3) := by decide +kernel
theorem dX8_heatUp_39 : decode cX8_heatUp 39 = .ok (.iload_n 2, 1) := by decide +kernel
theorem dX8_heatUp_40 : decode cX8_heatUp 40 = .ok (.iadd, 1) := by decide +kernel
theorem dX8_heatUp_41 : decode cX8_heatUp 41 = .ok (.ldc 90, 2) := by decide +kernel
theorem dX8_heatUp_43 : decode cX8_heatUp 43 = .ok (.if_icmp .le 13, 3) := by decide +kernel
theorem dX8_heatUp_46 : decode cX8_heatUp 46 = .ok (.new 81, 3) := by decide +kernel
theorem dX8_heatUp_49 : decode cX8_heatUp 49 = .ok (.dup, 1) := by decide +kernel
theorem dX8_heatUp_50 : decode cX8_heatUp 50 = .ok (.ldc 210, 2) := by decide +kernel
theorem dX8_heatUp_52 : decode cX8_heatUp 52 = .ok (.invokespecial 85, 3) := by decide +kernel
theorem dX8_heatUp_55 : decode cX8_heatUp 55 = .ok (.athrow, 1) := by decide +kernel
theorem dX8_heatUp_56 : decode cX8_heatUp 56 = .ok (.aload_n 0, 1) := by decide +kernel
theorem dX8_heatUp_57 : decode cX8_heatUp 57 = .ok (.getfield 55, 3) := by decide +kernel
theorem dX8_heatUp_60 : decode cX8_heatUp 60 = .ok (.iload_n 2, 1) := by decide +kernel
theorem dX8_heatUp_61 : decode cX8_heatUp 61 = .ok (.invokevirtual 212, 3) := by decide +kernel
theorem dX8_heatUp_64 : decode cX8_heatUp 64 = .ok (.aload_n 3, 1) := by decide +kernel
theorem dX8_heatUp_65 : decode cX8_heatUp 65 = .ok (.getfield 167, 3) := by decide +kernel
theorem dX8_heatUp_68 : decode cX8_heatUp 68 = .ok (.aload_n 0, 1) := by decide +kernel
theorem dX8_heatUp_69 : decode cX8_heatUp 69 = .ok (.getfield 55, 3) := by decide +kernel
theorem dX8_heatUp_72 : decode cX8_heatUp 72 = .ok (.invokevirtual 216, 3) := by decide +kernel
theorem dX8_heatUp_75 : decode cX8_heatUp 75 = .ok (.aload_n 0, 1) := by decide +kernel
theorem dX8_heatUp_76 : decode cX8_heatUp 76 = .ok (.dup, 1) := by decide +kernel
theorem dX8_heatUp_77 : decode cX8_heatUp 77 = .ok (.getfield 62, 3) := by decide +kernel
theorem dX8_heatUp_80 : decode cX8_heatUp 80 = .ok (.iload_n 2, 1) := by decide +kernel
theorem dX8_heatUp_81 : decode cX8_heatUp 81 = .ok (.i2l, 1) := by decide +kernel
theorem dX8_heatUp_82 : decode cX8_heatUp 82 = .ok (.ladd, 1) := by decide +kernel
theorem dX8_heatUp_83 : decode cX8_heatUp 83 = .ok (.putfield 62, 3) := by decide +kernel
theorem dX8_heatUp_86 : decode cX8_heatUp 86 = .ok (.aload_n 3, 1) := by decide +kernel
theorem dX8_heatUp_87 : decode cX8_heatUp 87 = .ok (.getfield 167, 3) := by decide +kernel
theorem dX8_heatUp_90 : decode cX8_heatUp 90 = .ok (.getfield 180, 3) := by decide +kernel
theorem dX8_heatUp_93 : decode cX8_heatUp 93 = .ok (.invokevirtual 176, 3) := by decide +kernel
theorem dX8_heatUp_96 : decode cX8_heatUp 96 = .ok (.l2i, 1) := by decide +kernel
theorem dX8_heatUp_97 : decode cX8_heatUp 97 = .ok (.ireturn, 1) := by decide +kernel
set_option maxRecDepth 20000 in
theorem ggX8_wall_X8_isFrom : GoodIn wsX8_wall wsX8_isFrom := goodIn_r _ [8] (by decide +kernel) (by decide +kernel)
set_option maxRecDepth 20000 in
theorem gX8_wall_X8_isFrom : GoodIn wsX8_wall (va_wsS RX8 91 yX8_isFrom wsX8_isFrom) := goodIn_app (goodIn_of _ (by decide +kernel)) ggX8_wall_X8_isFrom
theorem dX8_wall_0 : decode cX8_wall 0 = .ok (.iconst 0, 1) := by decide +kernel
theorem dX8_wall_1 : decode cX8_wall 1 = .ok (.iload_n 1, 1) := by decide +kernel
theorem dX8_wall_2 : decode cX8_wall 2 = .ok (.sipush 999, 3) := by decide +kernel
theorem dX8_wall_5 : decode cX8_wall 5 = .ok (.invokestatic 91, 3) := by decide +kernel
theorem dX8_wall_8 : decode cX8_wall 8 = .ok (.ifCond .ne 13, 3) := by decide +kernel
theorem dX8_wall_11 : decode cX8_wall 11 = .ok (.new 71, 3) := by decide +kernel
theorem dX8_wall_14 : decode cX8_wall 14 = .ok (.dup, 1) := by decide +kernel
theorem dX8_wall_15 : decode cX8_wall 15 = .ok (.ldc 95, 2) := by decide +kernel
theorem dX8_wall_17 : decode cX8_wall 17 = .ok (.invokespecial 75, 3) := by decide +kernel
theorem dX8_wall_20 : decode cX8_wall 20 = .ok (.athrow, 1) := by decide +kernel
theorem dX8_wall_21 : decode cX8_wall 21 = .ok (.aload_n 0, 1) := by decide +kernel
theorem dX8_wall_22 : decode cX8_wall 22 = .ok (.getfield 37, 3) := by decide +kernel
theorem dX8_wall_25 : decode cX8_wall 25 = .ok (.getfield 220, 3) := by decide +kernel
theorem dX8_wall_28 : decode cX8_wall 28 = .ok (.istore_n 2, 1) := by decide +kernel
theorem dX8_wall_29 : decode cX8_wall 29 = .ok (.aload_n 0, 1) := by decide +kernel
theorem dX8_wall_30 : decode cX8_wall 30 = .ok (.getfield 37, 3) := by decide +kernel
theorem dX8_wall_33 : decode cX8_wall 33 = .ok (.iload_n 1, 1) := by decide +kernel
theorem dX8_wall_34 : decode cX8_wall 34 = .ok (.putfield 220, 3) := by decide +kernel
theorem dX8_wall_37 : decode cX8_wall 37 = .ok (.iload_n 2, 1) := by decide +kernel
theorem dX8_wall_38 : decode cX8_wall 38 = .ok (.ireturn, 1) := by decide +kernel
theorem dX8_battery_0 : decode cX8_battery 0 = .ok (.aload_n 0, 1) := by decide +kernel
theorem dX8_battery_1 : decode cX8_battery 1 = .ok (.getfield 37, 3) := by decide +kernel
theorem dX8_battery_4 : decode cX8_battery 4 = .ok (.getfield 223, 3) := by decide +kernel
theorem dX8_battery_7 : decode cX8_battery 7 = .ok (.ireturn, 1) := by decide +kernel
theorem dX8_purse_0 : decode cX8_purse 0 = .ok (.aload_n 0, 1) := by decide +kernel
theorem dX8_purse_1 : decode cX8_purse 1 = .ok (.getfield 37, 3) := by decide +kernel
theorem dX8_purse_4 : decode cX8_purse 4 = .ok (.getfield 226, 3) := by decide +kernel
theorem dX8_purse_7 : decode cX8_purse 7 = .ok (.ireturn, 1) := by decide +kernel
theorem dX8_taken_0 : decode cX8_taken 0 = .ok (.aload_n 0, 1) := by decide +kernel
theorem dX8_taken_1 : decode cX8_taken 1 = .ok (.getfield 37, 3) := by decide +kernel
theorem dX8_taken_4 : decode cX8_taken 4 = .ok (.getfield 229, 3) := by decide +kernel
theorem dX8_taken_7 : decode cX8_taken 7 = .ok (.l2i, 1) := by decide +kernel
theorem dX8_taken_8 : decode cX8_taken 8 = .ok (.ireturn, 1) := by decide +kernel
theorem dX8_owed_0 : decode cX8_owed 0 = .ok (.aload_n 0, 1) := by decide +kernel
theorem dX8_owed_1 : decode cX8_owed 1 = .ok (.getfield 37, 3) := by decide +kernel
theorem dX8_owed_4 : decode cX8_owed 4 = .ok (.getfield 232, 3) := by decide +kernel
theorem dX8_owed_7 : decode cX8_owed 7 = .ok (.l2i, 1) := by decide +kernel
theorem dX8_owed_8 : decode cX8_owed 8 = .ok (.ireturn, 1) := by decide +kernel
set_option maxRecDepth 20000 in
theorem ggX8_request_X8_isFrom : GoodIn wsX8_request wsX8_isFrom := goodIn_r _ [12] (by decide +kernel) (by decide +kernel)
set_option maxRecDepth 20000 in
theorem gX8_request_X8_isFrom : GoodIn wsX8_request (va_wsS RX8 91 yX8_isFrom wsX8_isFrom) := goodIn_app (goodIn_of _ (by decide +kernel)) ggX8_request_X8_isFrom
set_option maxRecDepth 20000 in
theorem ggX8_request_X5_take : GoodIn wsX8_request wsX5_take := goodIn_r _ [17, 18, 19, 20, 21, 32, 33, 34, 35, 36, 37, 38] (by decide +kernel) (by decide +kernel)
set_option maxRecDepth 20000 in
theorem gX8_request_X5_take : GoodIn wsX8_request (wsV RX8 243 RX5 yX5_take wsX5_take) := goodIn_app (goodIn_of _ (by decide +kernel)) ggX8_request_X5_take
theorem dX8_request_0 : decode cX8_request 0 = .ok (.iconst 1, 1) := by decide +kernel
theorem dX8_request_1 : decode cX8_request 1 = .ok (.iload_n 1, 1) := by decide +kernel
theorem dX8_request_2 : decode cX8_request 2 = .ok (.sipush 9999, 3) := by decide +kernel
theorem dX8_request_5 : decode cX8_request 5 = .ok (.invokestatic 91, 3) := by decide +kernel
theorem dX8_request_8 : decode cX8_request 8 = .ok (.ifCond .ne 22, 3) := by decide +kernel
theorem dX8_request_11 : decode cX8_request 11 = .ok (.aload_n 0, 1) := by decide +kernel
theorem dX8_request_12 : decode cX8_request 12 = .ok (.getfield 44, 3) := by decide +kernel
theorem dX8_request_15 : decode cX8_request 15 = .ok (.bipush 110, 2) := by decide +kernel
theorem dX8_request_17 : decode cX8_request 17 = .ok (.putfield 235, 3) := by decide +kernel
theorem dX8_request_20 : decode cX8_request 20 = .ok (.new 71, 3) := by decide +kernel
theorem dX8_request_23 : decode cX8_request 23 = .ok (.dup, 1) := by decide +kernel
theorem dX8_request_24 : decode cX8_request 24 = .ok (.ldc 95, 2) := by decide +kernel
theorem dX8_request_26 : decode cX8_request 26 = .ok (.invokespecial 75, 3) := by decide +kernel
theorem dX8_request_29 : decode cX8_request 29 = .ok (.athrow, 1) := by decide +kernel
theorem dX8_request_30 : decode cX8_request 30 = .ok (.iconst 0, 1) := by decide +kernel
theorem dX8_request_31 : decode cX8_request 31 = .ok (.iload_n 2, 1) := by decide +kernel
theorem dX8_request_32 : decode cX8_request 32 = .ok (.bipush 7, 2) := by decide +kernel
theorem dX8_request_34 : decode cX8_request 34 = .ok (.invokestatic 91, 3) := by decide +kernel
theorem dX8_request_37 : decode cX8_request 37 = .ok (.ifCond .ne 22, 3) := by decide +kernel
theorem dX8_request_40 : decode cX8_request 40 = .ok (.aload_n 0, 1) := by decide +kernel
theorem dX8_request_41 : decode cX8_request 41 = .ok (.getfield 44, 3) := by decide +kernel
theorem dX8_request_44 : decode cX8_request 44 = .ok (.bipush 118, 2) := by decide +kernel
theorem dX8_request_46 : decode cX8_request 46 = .ok (.putfield 235, 3) := by decide +kernel
theorem dX8_request_49 : decode cX8_request 49 = .ok (.new 71, 3) := by decide +kernel
theorem dX8_request_52 : decode cX8_request 52 = .ok (.dup, 1) := by decide +kernel
theorem dX8_request_53 : decode cX8_request 53 = .ok (.ldc 125, 2) := by decide +kernel
theorem dX8_request_55 : decode cX8_request 55 = .ok (.invokespecial 75, 3) := by decide +kernel
theorem dX8_request_58 : decode cX8_request 58 = .ok (.athrow, 1) := by decide +kernel
theorem dX8_request_59 : decode cX8_request 59 = .ok (.iload_n 1, 1) := by decide +kernel
theorem dX8_request_60 : decode cX8_request 60 = .ok (.aload_n 0, 1) := by decide +kernel
theorem dX8_request_61 : decode cX8_request 61 = .ok (.getfield 44, 3) := by decide +kernel
theorem dX8_request_64 : decode cX8_request 64 = .ok (.getfield 238, 3) := by decide +kernel
theorem dX8_request_67 : decode cX8_request 67 = .ok (.if_icmp .gt 22, 3) := by decide +kernel
theorem dX8_request_70 : decode cX8_request 70 = .ok (.aload_n 0, 1) := by decide +kernel
theorem dX8_request_71 : decode cX8_request 71 = .ok (.getfield 44, 3) := by decide +kernel
theorem dX8_request_74 : decode cX8_request 74 = .ok (.bipush 115, 2) := by decide +kernel
theorem dX8_request_76 : decode cX8_request 76 = .ok (.putfield 235, 3) := by decide +kernel
theorem dX8_request_79 : decode cX8_request 79 = .ok (.new 115, 3) := by decide +kernel
theorem dX8_request_82 : decode cX8_request 82 = .ok (.dup, 1) := by decide +kernel
theorem dX8_request_83 : decode cX8_request 83 = .ok (.ldc 241, 2) := by decide +kernel
theorem dX8_request_85 : decode cX8_request 85 = .ok (.invokespecial 119, 3) := by decide +kernel
theorem dX8_request_88 : decode cX8_request 88 = .ok (.athrow, 1) := by decide +kernel
theorem dX8_request_89 : decode cX8_request 89 = .ok (.aload_n 0, 1) := by decide +kernel
theorem dX8_request_90 : decode cX8_request 90 = .ok (.getfield 44, 3) := by decide +kernel
theorem dX8_request_93 : decode cX8_request 93 = .ok (.iload_n 1, 1) := by decide +kernel
theorem dX8_request_94 : decode cX8_request 94 = .ok (.iload_n 2, 1) := by decide +kernel
theorem dX8_request_95 : decode cX8_request 95 = .ok (.invokevirtual 243, 3) := by decide +kernel
theorem dX8_request_98 : decode cX8_request 98 = .ok (.aload_n 0, 1) := by decide +kernel
theorem dX8_request_99 : decode cX8_request 99 = .ok (.getfield 44, 3) := by decide +kernel
theorem dX8_request_102 : decode cX8_request 102 = .ok (.getfield 247, 3) := by decide +kernel
theorem dX8_request_105 : decode cX8_request 105 = .ok (.ireturn, 1) := by decide +kernel
theorem dX8_holds_0 : decode cX8_holds 0 = .ok (.aload_n 0, 1) := by decide +kernel
theorem dX8_holds_1 : decode cX8_holds 1 = .ok (.getfield 44, 3) := by decide +kernel
theorem dX8_holds_4 : decode cX8_holds 4 = .ok (.getfield 250, 3) := by decide +kernel
theorem dX8_holds_7 : decode cX8_holds 7 = .ok (.ireturn, 1) := by decide +kernel
theorem dX8_why_0 : decode cX8_why 0 = .ok (.aload_n 0, 1) := by decide +kernel
theorem dX8_why_1 : decode cX8_why 1 = .ok (.getfield 44, 3) := by decide +kernel
theorem dX8_why_4 : decode cX8_why 4 = .ok (.getfield 235, 3) := by decide +kernel
theorem dX8_why_7 : decode cX8_why 7 = .ok (.ireturn, 1) := by decide +kernel
set_option maxRecDepth 20000 in
theorem ggX8_drop_X5_dropBoth : GoodIn wsX8_drop wsX5_dropBoth := goodIn_r _ [6, 7, 8, 19, 20, 21, 22, 23, 24, 25] (by decide +kernel) (by decide +kernel)
set_option maxRecDepth 20000 in
theorem gX8_drop_X5_dropBoth : GoodIn wsX8_drop (wsV RX8 253 RX5 yX5_dropBoth wsX5_dropBoth) := goodIn_app (goodIn_of _ (by decide +kernel)) ggX8_drop_X5_dropBoth
theorem dX8_drop_0 : decode cX8_drop 0 = .ok (.aload_n 0, 1) := by decide +kernel
theorem dX8_drop_1 : decode cX8_drop 1 = .ok (.getfield 44, 3) := by decide +kernel
theorem dX8_drop_4 : decode cX8_drop 4 = .ok (.invokevirtual 253, 3) := by decide +kernel
theorem dX8_drop_7 : decode cX8_drop 7 = .ok (.ireturn, 1) := by decide +kernel
set_option maxRecDepth 20000 in
theorem ggX8_age_X8_coreAt : GoodIn wsX8_age wsX8_coreAt := goodIn_ca (goodIn_r _ [5, 6, 7, 8, 15, 16, 17, 18, 19, 20, 21, 22, 23, 24] (by decide +kernel) (by decide +kernel)) (goodIn_sub (fun _ h => List.mem_cons_of_mem _ (List.mem_append_right _ h)) (by decide +kernel))
set_option maxRecDepth 20000 in
theorem gX8_age_X8_coreAt : GoodIn wsX8_age (wsV RX8 86 RX8 yX8_coreAt wsX8_coreAt) := goodIn_app (goodIn_of _ (by decide +kernel)) ggX8_age_X8_coreAt
set_option maxRecDepth 20000 in
theorem ggX8_age_X3_inAge : GoodIn wsX8_age wsX3_inAge := goodIn_r _ [13, 14, 25, 26, 27, 28, 29, 30, 31, 32, 33, 34, 35, 36, 37, 38, 39, 40, 41, 42, 43, 44] (by decide +kernel) (by decide +kernel)
set_option maxRecDepth 20000 in
theorem gX8_age_X3_inAge : GoodIn wsX8_age (wsV RX8 257 RX3 yX3_inAge wsX3_inAge) := goodIn_app (goodIn_of _ (by decide +kernel)) ggX8_age_X3_inAge
theorem dX8_age_0 : decode cX8_age 0 = .ok (.aload_n 0, 1) := by decide +kernel
theorem dX8_age_1 : decode cX8_age 1 = .ok (.iload_n 1, 1) := by decide +kernel
theorem dX8_age_2 : decode cX8_age 2 = .ok (.invokevirtual 86, 3) := by decide +kernel
theorem dX8_age_5 : decode cX8_age 5 = .ok (.invokevirtual 257, 3) := by decide +kernel
theorem dX8_age_8 : decode cX8_age 8 = .ok (.ireturn, 1) := by decide +kernel
set_option maxRecDepth 20000 in
theorem ggX8_isRetired_X8_coreAt : GoodIn wsX8_isRetired wsX8_coreAt := goodIn_ca (goodIn_r _ [5, 6, 7, 8, 19, 20, 21, 22, 23, 24, 25, 26, 27, 28] (by decide +kernel) (by decide +kernel)) (goodIn_sub (fun _ h => List.mem_cons_of_mem _ (List.mem_append_right _ h)) (by decide +kernel))
set_option maxRecDepth 20000 in
theorem gX8_isRetired_X8_coreAt : GoodIn wsX8_isRetired (wsV RX8 86 RX8 yX8_coreAt wsX8_coreAt) := goodIn_app (goodIn_of _ (by decide +kernel)) ggX8_isRetired_X8_coreAt
set_option maxRecDepth 20000 in
theorem ggX8_isRetired_X3_isTooOld : GoodIn wsX8_isRetired wsX3_isTooOld := goodIn_r _ [13, 14, 15, 16, 12, 17, 18, 29, 30, 31, 32, 33, 34, 35, 36, 37, 38, 39, 40, 41, 42, 43, 44, 45, 46, 47, 48] (by decide +kernel) (by decide +kernel)
set_option maxRecDepth 20000 in
theorem gX8_isRetired_X3_isTooOld : GoodIn wsX8_isRetired (wsV RX8 260 RX3 yX3_isTooOld wsX3_isTooOld) := goodIn_app (goodIn_of _ (by decide +kernel)) ggX8_isRetired_X3_isTooOld
theorem dX8_isRetired_0 : decode cX8_isRetired 0 = .ok (.aload_n 0, 1) := by decide +kernel
theorem dX8_isRetired_1 : decode cX8_isRetired 1 = .ok (.iload_n 1, 1) := by decide +kernel
theorem dX8_isRetired_2 : decode cX8_isRetired 2 = .ok (.invokevirtual 86, 3) := by decide +kernel
theorem dX8_isRetired_5 : decode cX8_isRetired 5 = .ok (.invokevirtual 260, 3) := by decide +kernel
theorem dX8_isRetired_8 : decode cX8_isRetired 8 = .ok (.ireturn, 1) := by decide +kernel
set_option maxRecDepth 20000 in
theorem ggX8_wear_X8_coreAt : GoodIn wsX8_wear wsX8_coreAt := goodIn_ca (goodIn_r _ [10, 11, 12, 13, 37, 38, 39, 40, 41, 42, 43, 44, 45, 46] (by decide +kernel) (by decide +kernel)) (goodIn_sub (fun _ h => List.mem_cons_of_mem _ (List.mem_append_right _ h)) (by decide +kernel))
set_option maxRecDepth 20000 in
theorem gX8_wear_X8_coreAt : GoodIn wsX8_wear (wsV RX8 86 RX8 yX8_coreAt wsX8_coreAt) := goodIn_app (goodIn_of _ (by decide +kernel)) ggX8_wear_X8_coreAt
set_option maxRecDepth 20000 in
theorem ggX8_wear_X8_isFrom : GoodIn wsX8_wear wsX8_isFrom := goodIn_r _ [16] (by decide +kernel) (by decide +kernel)
set_option maxRecDepth 20000 in
theorem gX8_wear_X8_isFrom : GoodIn wsX8_wear (va_wsS RX8 91 yX8_isFrom wsX8_isFrom) := goodIn_app (goodIn_of _ (by decide +kernel)) ggX8_wear_X8_isFrom
theorem dX8_wear_0 : decode cX8_wear 0 = .ok (.aload_n 0, 1) := by decide +kernel
theorem dX8_wear_1 : decode cX8_wear 1 = .ok (.iload_n 1, 1) := by decide +kernel
theorem dX8_wear_2 : decode cX8_wear 2 = .ok (.invokevirtual 86, 3) := by decide +kernel
theorem dX8_wear_5 : decode cX8_wear 5 = .ok (.astore_n 3, 1) := by decide +kernel
theorem dX8_wear_6 : decode cX8_wear 6 = .ok (.iconst 1, 1) := by decide +kernel
theorem dX8_wear_7 : decode cX8_wear 7 = .ok (.iload_n 2, 1) := by decide +kernel
theorem dX8_wear_8 : decode cX8_wear 8 = .ok (.sipush 999, 3) := by decide +kernel
theorem dX8_wear_11 : decode cX8_wear 11 = .ok (.invokestatic 91, 3) := by decide +kernel
theorem dX8_wear_14 : decode cX8_wear 14 = .ok (.ifCond .ne 13, 3) := by decide +kernel
theorem dX8_wear_17 : decode cX8_wear 17 = .ok (.new 71, 3) := by decide +kernel
theorem dX8_wear_20 : decode cX8_wear 20 = .ok (.dup, 1) := by decide +kernel
theorem dX8_wear_21 : decode cX8_wear 21 = .ok (.ldc 95, 2) := by decide +kernel
theorem dX8_wear_23 : decode cX8_wear 23 = .ok (.invokespecial 75, 3) := by decide +kernel
theorem dX8_wear_26 : decode cX8_wear 26 = .ok (.athrow, 1) := by decide +kernel
theorem dX8_wear_27 : decode cX8_wear 27 = .ok (.aload_n 3, 1) := by decide +kernel
theorem dX8_wear_28 : decode cX8_wear 28 = .ok (.getfield 263, 3) := by decide +kernel
theorem dX8_wear_31 : decode cX8_wear 31 = .ok (.iload_n 2, 1) := by decide +kernel
theorem dX8_wear_32 : decode cX8_wear 32 = .ok (.iadd, 1) := by decide +kernel
theorem dX8_wear_33 : decode cX8_wear 33 = .ok (.sipush 9999, 3) := by decide +kernel
theorem dX8_wear_36 : decode cX8_wear 36 = .ok (.if_icmp .le 14, 3) := by decide +kernel
theorem dX8_wear_39 : decode cX8_wear 39 = .ok (.new 81, 3) := by decide +kernel
theorem dX8_wear_42 : decode cX8_wear 42 = .ok (.dup, 1) := by decide +kernel
theorem dX8_wear_43 : decode cX8_wear 43 = .ok (.ldc_w 266, 3) := by decide +kernel
theorem dX8_wear_46 : decode cX8_wear 46 = .ok (.invokespecial 85, 3) := by decide +kernel
theorem dX8_wear_49 : decode cX8_wear 49 = .ok (.athrow, 1) := by decide +kernel
theorem dX8_wear_50 : decode cX8_wear 50 = .ok (.aload_n 3, 1) := by decide +kernel
theorem dX8_wear_51 : decode cX8_wear 51 = .ok (.dup, 1) := by decide +kernel
theorem dX8_wear_52 : decode cX8_wear 52 = .ok (.getfield 263, 3) := by decide +kernel
theorem dX8_wear_55 : decode cX8_wear 55 = .ok (.iload_n 2, 1) := by decide +kernel
theorem dX8_wear_56 : decode cX8_wear 56 = .ok (.iadd, 1) := by decide +kernel
theorem dX8_wear_57 : decode cX8_wear 57 = .ok (.putfield 263, 3) := by decide +kernel
theorem dX8_wear_60 : decode cX8_wear 60 = .ok (.aload_n 3, 1) := by decide +kernel
theorem dX8_wear_61 : decode cX8_wear 61 = .ok (.getfield 263, 3) := by decide +kernel
theorem dX8_wear_64 : decode cX8_wear 64 = .ok (.ireturn, 1) := by decide +kernel
theorem dX8_account_0 : decode cX8_account 0 = .ok (.iload_n 1, 1) := by decide +kernel
theorem dX8_account_1 : decode cX8_account 1 = .ok (.bipush 119, 2) := by decide +kernel
theorem dX8_account_3 : decode cX8_account 3 = .ok (.if_icmp .ne 11, 3) := by decide +kernel
theorem dX8_account_6 : decode cX8_account 6 = .ok (.aload_n 0, 1) := by decide +kernel
theorem dX8_account_7 : decode cX8_account 7 = .ok (.getfield 37, 3) := by decide +kernel
theorem dX8_account_10 : decode cX8_account 10 = .ok (.getfield 268, 3) := by decide +kernel
theorem dX8_account_13 : decode cX8_account 13 = .ok (.lreturn, 1) := by decide +kernel
theorem dX8_account_14 : decode cX8_account 14 = .ok (.iload_n 1, 1) := by decide +kernel
theorem dX8_account_15 : decode cX8_account 15 = .ok (.bipush 98, 2) := by decide +kernel
theorem dX8_account_17 : decode cX8_account 17 = .ok (.if_icmp .ne 11, 3) := by decide +kernel
theorem dX8_account_20 : decode cX8_account 20 = .ok (.aload_n 0, 1) := by decide +kernel
theorem dX8_account_21 : decode cX8_account 21 = .ok (.getfield 37, 3) := by decide +kernel
theorem dX8_account_24 : decode cX8_account 24 = .ok (.getfield 271, 3) := by decide +kernel
theorem dX8_account_27 : decode cX8_account 27 = .ok (.lreturn, 1) := by decide +kernel
theorem dX8_account_28 : decode cX8_account 28 = .ok (.iload_n 1, 1) := by decide +kernel
theorem dX8_account_29 : decode cX8_account 29 = .ok (.bipush 111, 2) := by decide +kernel
theorem dX8_account_31 : decode cX8_account 31 = .ok (.if_icmp .ne 11, 3) := by decide +kernel
theorem dX8_account_34 : decode cX8_account 34 = .ok (.aload_n 0, 1) := by decide +kernel
theorem dX8_account_35 : decode cX8_account 35 = .ok (.getfield 37, 3) := by decide +kernel
theorem dX8_account_38 : decode cX8_account 38 = .ok (.getfield 274, 3) := by decide +kernel
theorem dX8_account_41 : decode cX8_account 41 = .ok (.lreturn, 1) := by decide +kernel
theorem dX8_account_42 : decode cX8_account 42 = .ok (.iload_n 1, 1) := by decide +kernel
theorem dX8_account_43 : decode cX8_account 43 = .ok (.bipush 104, 2) := by decide +kernel
theorem dX8_account_45 : decode cX8_account 45 = .ok (.if_icmp .ne 8, 3) := by decide +kernel
theorem dX8_account_48 : decode cX8_account 48 = .ok (.aload_n 0, 1) := by decide +kernel
theorem dX8_account_49 : decode cX8_account 49 = .ok (.getfield 62, 3) := by decide +kernel
theorem dX8_account_52 : decode cX8_account 52 = .ok (.lreturn, 1) := by decide +kernel
theorem dX8_account_53 : decode cX8_account 53 = .ok (.iload_n 1, 1) := by decide +kernel
theorem dX8_account_54 : decode cX8_account 54 = .ok (.bipush 97, 2) := by decide +kernel
theorem dX8_account_56 : decode cX8_account 56 = .ok (.if_icmp .ne 11, 3) := by decide +kernel
theorem dX8_account_59 : decode cX8_account 59 = .ok (.aload_n 0, 1) := by decide +kernel
theorem dX8_account_60 : decode cX8_account 60 = .ok (.getfield 30, 3) := by decide +kernel
theorem dX8_account_63 : decode cX8_account 63 = .ok (.getfield 277, 3) := by decide +kernel
theorem dX8_account_66 : decode cX8_account 66 = .ok (.lreturn, 1) := by decide +kernel
theorem dX8_account_67 : decode cX8_account 67 = .ok (.iload_n 1, 1) := by decide +kernel
theorem dX8_account_68 : decode cX8_account 68 = .ok (.bipush 116, 2) := by decide +kernel
theorem dX8_account_70 : decode cX8_account 70 = .ok (.if_icmp .ne 11, 3) := by decide +kernel
theorem dX8_account_73 : decode cX8_account 73 = .ok (.aload_n 0, 1) := by decide +kernel
theorem dX8_account_74 : decode cX8_account 74 = .ok (.getfield 37, 3) := by decide +kernel
theorem dX8_account_77 : decode cX8_account 77 = .ok (.getfield 280, 3) := by decide +kernel
theorem dX8_account_80 : decode cX8_account 80 = .ok (.lreturn, 1) := by decide +kernel
theorem dX8_account_81 : decode cX8_account 81 = .ok (.new 71, 3) := by decide +kernel
theorem dX8_account_84 : decode cX8_account 84 = .ok (.dup, 1) := by decide +kernel
theorem dX8_account_85 : decode cX8_account 85 = .ok (.ldc_w 283, 3) := by decide +kernel
theorem dX8_account_88 : decode cX8_account 88 = .ok (.invokespecial 75, 3) := by decide +kernel
theorem dX8_account_91 : decode cX8_account 91 = .ok (.athrow, 1) := by decide +kernel
set_option maxRecDepth 20000 in
theorem ggX8_checksum_X0_lowBits : GoodIn wsX8_checksum wsX0_lowBits := goodIn_r _ [17, 18, 71, 72] (by decide +kernel) (by decide +kernel)
set_option maxRecDepth 20000 in
theorem gX8_checksum_X0_lowBits : GoodIn wsX8_checksum (wsV RX8 176 RX0 yX0_lowBits wsX0_lowBits) := goodIn_app (goodIn_of _ (by decide +kernel)) ggX8_checksum_X0_lowBits
theorem dX8_checksum_0 : decode cX8_checksum 0 = .ok (.ldc2_w 285, 3) := by decide +kernel
theorem dX8_checksum_3 : decode cX8_checksum 3 = .ok (.lstore_n 1, 1) := by decide +kernel
theorem dX8_checksum_4 : decode cX8_checksum 4 = .ok (.aload_n 0, 1) := by decide +kernel
theorem dX8_checksum_5 : decode cX8_checksum 5 = .ok (.getfield 17, 3) := by decide +kernel
theorem dX8_checksum_8 : decode cX8_checksum 8 = .ok (.astore_n 3, 1) := by decide +kernel
theorem dX8_checksum_9 : decode cX8_checksum 9 = .ok (.aload_n 3, 1) := by decide +kernel
theorem dX8_checksum_10 : decode cX8_checksum 10 = .ok (.arraylength, 1) := by decide +kernel
theorem dX8_checksum_11 : decode cX8_checksum 11 = .ok (.istore 4, 2) := by decide +kernel
theorem dX8_checksum_13 : decode cX8_checksum 13 = .ok (.iconst 0, 1) := by decide +kernel
theorem dX8_checksum_14 : decode cX8_checksum 14 = .ok (.istore 5, 2) := by decide +kernel
theorem dX8_checksum_16 : decode cX8_checksum 16 = .ok (.iload 5, 2) := by decide +kernel
theorem dX8_checksum_18 : decode cX8_checksum 18 = .ok (.iload 4, 2) := by decide +kernel
theorem dX8_checksum_20 : decode cX8_checksum 20 = .ok (.if_icmp .ge 51, 3) := by decide +kernel
theorem dX8_checksum_23 : decode cX8_checksum 23 = .ok (.aload_n 3, 1) := by decide +kernel
theorem dX8_checksum_24 : decode cX8_checksum 24 = .ok (.iload 5, 2) := by decide +kernel
theorem dX8_checksum_26 : decode cX8_checksum 26 = .ok (.aaload, 1) := by decide +kernel
theorem dX8_checksum_27 : decode cX8_checksum 27 = .ok (.astore 6, 2) := by decide +kernel
theorem dX8_checksum_29 : decode cX8_checksum 29 = .ok (.aload 6, 2) := by decide +kernel
theorem dX8_checksum_31 : decode cX8_checksum 31 = .ok (.ifnull 34, 3) := by decide +kernel
theorem dX8_checksum_34 : decode cX8_checksum 34 = .ok (.ldc2_w 287, 3) := by decide +kernel
theorem dX8_checksum_37 : decode cX8_checksum 37 = .ok (.lload_n 1, 1) := by decide +kernel
theorem dX8_checksum_38 : decode cX8_checksum 38 = .ok (.lmul, 1) := by decide +kernel
theorem dX8_checksum_39 : decode cX8_checksum 39 = .ok (.aload 6, 2) := by decide +kernel
theorem dX8_checksum_41 : decode cX8_checksum 41 = .ok (.getfield 139, 3) := by decide +kernel
theorem dX8_checksum_44 : decode cX8_checksum 44 = .ok (.i2l, 1) := by decide +kernel
theorem dX8_checksum_45 : decode cX8_checksum 45 = .ok (.ladd, 1) := by decide +kernel
theorem dX8_checksum_46 : decode cX8_checksum 46 = .ok (.lstore_n 1, 1) := by decide +kernel
theorem dX8_checksum_47 : decode cX8_checksum 47 = .ok (.ldc2_w 287, 3) := by decide +kernel
theorem dX8_checksum_50 : decode cX8_checksum 50 = .ok (.lload_n 1, 1) := by decide +kernel
theorem dX8_checksum_51 : decode cX8_checksum 51 = .ok (.lmul, 1) := by decide +kernel
theorem dX8_checksum_52 : decode cX8_checksum 52 = .ok (.aload 6, 2) := by decide +kernel
theorem dX8_checksum_54 : decode cX8_checksum 54 = .ok (.getfield 167, 3) := by decide +kernel
theorem dX8_checksum_57 : decode cX8_checksum 57 = .ok (.getfield 171, 3) := by decide +kernel
theorem dX8_checksum_60 : decode cX8_checksum 60 = .ok (.invokevirtual 176, 3) := by decide +kernel
theorem dX8_checksum_63 : decode cX8_checksum 63 = .ok (.ladd, 1) := by decide +kernel
theorem dX8_checksum_64 : decode cX8_checksum 64 = .ok (.lstore_n 1, 1) := by decide +kernel
theorem dX8_checksum_65 : decode cX8_checksum 65 = .ok (.iinc 5 1, 3) := by decide +kernel
theorem dX8_checksum_68 : decode cX8_checksum 68 = .ok (.goto (-52), 3) := by decide +kernel
theorem dX8_checksum_71 : decode cX8_checksum 71 = .ok (.aload_n 0, 1) := by decide +kernel
theorem dX8_checksum_72 : decode cX8_checksum 72 = .ok (.getfield 23, 3) := by decide +kernel
theorem dX8_checksum_75 : decode cX8_checksum 75 = .ok (.astore_n 3, 1) := by decide +kernel
theorem dX8_checksum_76 : decode cX8_checksum 76 = .ok (.aload_n 3, 1) := by decide +kernel
theorem dX8_checksum_77 : decode cX8_checksum 77 = .ok (.arraylength, 1) := by decide +kernel
theorem dX8_checksum_78 : decode cX8_checksum 78 = .ok (.istore 4, 2) := by decide +kernel
theorem dX8_checksum_80 : decode cX8_checksum 80 = .ok (.iconst 0, 1) := by decide +kernel
theorem dX8_checksum_81 : decode cX8_checksum 81 = .ok (.istore 5, 2) := by decide +kernel
theorem dX8_checksum_83 : decode cX8_checksum 83 = .ok (.iload 5, 2) := by decide +kernel
theorem dX8_checksum_85 : decode cX8_checksum 85 = .ok (.iload 4, 2) := by decide +kernel
theorem dX8_checksum_87 : decode cX8_checksum 87 = .ok (.if_icmp .ge 33, 3) := by decide +kernel
theorem dX8_checksum_90 : decode cX8_checksum 90 = .ok (.aload_n 3, 1) := by decide +kernel
theorem dX8_checksum_91 : decode cX8_checksum 91 = .ok (.iload 5, 2) := by decide +kernel
theorem dX8_checksum_93 : decode cX8_checksum 93 = .ok (.aaload, 1) := by decide +kernel
theorem dX8_checksum_94 : decode cX8_checksum 94 = .ok (.astore 6, 2) := by decide +kernel
theorem dX8_checksum_96 : decode cX8_checksum 96 = .ok (.aload 6, 2) := by decide +kernel
theorem dX8_checksum_98 : decode cX8_checksum 98 = .ok (.ifnull 16, 3) := by decide +kernel
theorem dX8_checksum_101 : decode cX8_checksum 101 = .ok (.ldc2_w 287, 3) := by decide +kernel
theorem dX8_checksum_104 : decode cX8_checksum 104 = .ok (.lload_n 1, 1) := by decide +kernel
theorem dX8_checksum_105 : decode cX8_checksum 105 = .ok (.lmul, 1) := by decide +kernel
theorem dX8_checksum_106 : decode cX8_checksum 106 = .ok (.aload 6, 2) := by decide +kernel
theorem dX8_checksum_108 : decode cX8_checksum 108 = .ok (.getfield 106, 3) := by decide +kernel
theorem dX8_checksum_111 : decode cX8_checksum 111 = .ok (.i2l, 1) := by decide +kernel
theorem dX8_checksum_112 : decode cX8_checksum 112 = .ok (.ladd, 1) := by decide +kernel
theorem dX8_checksum_113 : decode cX8_checksum 113 = .ok (.lstore_n 1, 1) := by decide +kernel
theorem dX8_checksum_114 : decode cX8_checksum 114 = .ok (.iinc 5 1, 3) := by decide +kernel
theorem dX8_checksum_117 : decode cX8_checksum 117 = .ok (.goto (-34), 3) := by decide +kernel
theorem dX8_checksum_120 : decode cX8_checksum 120 = .ok (.ldc2_w 287, 3) := by decide +kernel
theorem dX8_checksum_123 : decode cX8_checksum 123 = .ok (.lload_n 1, 1) := by decide +kernel
theorem dX8_checksum_124 : decode cX8_checksum 124 = .ok (.lmul, 1) := by decide +kernel
theorem dX8_checksum_125 : decode cX8_checksum 125 = .ok (.aload_n 0, 1) := by decide +kernel
theorem dX8_checksum_126 : decode cX8_checksum 126 = .ok (.getfield 30, 3) := by decide +kernel
theorem dX8_checksum_129 : decode cX8_checksum 129 = .ok (.getfield 183, 3) := by decide +kernel
theorem dX8_checksum_132 : decode cX8_checksum 132 = .ok (.getfield 171, 3) := by decide +kernel
theorem dX8_checksum_135 : decode cX8_checksum 135 = .ok (.invokevirtual 176, 3) := by decide +kernel
theorem dX8_checksum_138 : decode cX8_checksum 138 = .ok (.ladd, 1) := by decide +kernel
theorem dX8_checksum_139 : decode cX8_checksum 139 = .ok (.lstore_n 1, 1) := by decide +kernel
theorem dX8_checksum_140 : decode cX8_checksum 140 = .ok (.ldc2_w 287, 3) := by decide +kernel
theorem dX8_checksum_143 : decode cX8_checksum 143 = .ok (.lload_n 1, 1) := by decide +kernel
theorem dX8_checksum_144 : decode cX8_checksum 144 = .ok (.lmul, 1) := by decide +kernel
theorem dX8_checksum_145 : decode cX8_checksum 145 = .ok (.aload_n 0, 1) := by decide +kernel
theorem dX8_checksum_146 : decode cX8_checksum 146 = .ok (.getfield 37, 3) := by decide +kernel
theorem dX8_checksum_149 : decode cX8_checksum 149 = .ok (.getfield 223, 3) := by decide +kernel
theorem dX8_checksum_152 : decode cX8_checksum 152 = .ok (.i2l, 1) := by decide +kernel
theorem dX8_checksum_153 : decode cX8_checksum 153 = .ok (.ladd, 1) := by decide +kernel
theorem dX8_checksum_154 : decode cX8_checksum 154 = .ok (.lreturn, 1) := by decide +kernel
set_option maxRecDepth 20000 in
theorem ggX8_busyShare_X8_runningOn : GoodIn wsX8_busyShare wsX8_runningOn := goodIn_r _ [9, 10, 11, 12, 13, 14, 15, 16, 17, 18, 19, 20, 21, 22, 43, 44, 45, 46] (by decide +kernel) (by decide +kernel)
set_option maxRecDepth 20000 in
theorem gX8_busyShare_X8_runningOn : GoodIn wsX8_busyShare (wsV RX8 151 RX8 yX8_runningOn wsX8_runningOn) := goodIn_app (goodIn_of _ (by decide +kernel)) ggX8_busyShare_X8_runningOn
theorem dX8_busyShare_0 : decode cX8_busyShare 0 = .ok (.iconst 0, 1) := by decide +kernel
theorem dX8_busyShare_1 : decode cX8_busyShare 1 = .ok (.istore_n 1, 1) := by decide +kernel
theorem dX8_busyShare_2 : decode cX8_busyShare 2 = .ok (.iconst 0, 1) := by decide +kernel
theorem dX8_busyShare_3 : decode cX8_busyShare 3 = .ok (.istore_n 2, 1) := by decide +kernel
theorem dX8_busyShare_4 : decode cX8_busyShare 4 = .ok (.aload_n 0, 1) := by decide +kernel
theorem dX8_busyShare_5 : decode cX8_busyShare 5 = .ok (.getfield 17, 3) := by decide +kernel
theorem dX8_busyShare_8 : decode cX8_busyShare 8 = .ok (.astore_n 3, 1) := by decide +kernel
theorem dX8_busyShare_9 : decode cX8_busyShare 9 = .ok (.aload_n 3, 1) := by decide +kernel
theorem dX8_busyShare_10 : decode cX8_busyShare 10 = .ok (.arraylength, 1) := by decide +kernel
theorem dX8_busyShare_11 : decode cX8_busyShare 11 = .ok (.istore 4, 2) := by decide +kernel
theorem dX8_busyShare_13 : decode cX8_busyShare 13 = .ok (.iconst 0, 1) := by decide +kernel
theorem dX8_busyShare_14 : decode cX8_busyShare 14 = .ok (.istore 5, 2) := by decide +kernel
theorem dX8_busyShare_16 : decode cX8_busyShare 16 = .ok (.iload 5, 2) := by decide +kernel
theorem dX8_busyShare_18 : decode cX8_busyShare 18 = .ok (.iload 4, 2) := by decide +kernel
theorem dX8_busyShare_20 : decode cX8_busyShare 20 = .ok (.if_icmp .ge 43, 3) := by decide +kernel
theorem dX8_busyShare_23 : decode cX8_busyShare 23 = .ok (.aload_n 3, 1) := by decide +kernel
theorem dX8_busyShare_24 : decode cX8_busyShare 24 = .ok (.iload 5, 2) := by decide +kernel
theorem dX8_busyShare_26 : decode cX8_busyShare 26 = .ok (.aaload, 1) := by decide +kernel
theorem dX8_busyShare_27 : decode cX8_busyShare 27 = .ok (.astore 6, 2) := by decide +kernel
theorem dX8_busyShare_29 : decode cX8_busyShare 29 = .ok (.aload 6, 2) := by decide +kernel
theorem dX8_busyShare_31 : decode cX8_busyShare 31 = .ok (.ifnull 26, 3) := by decide +kernel
theorem dX8_busyShare_34 : decode cX8_busyShare 34 = .ok (.iinc 1 1, 3) := by decide +kernel
theorem dX8_busyShare_37 : decode cX8_busyShare 37 = .ok (.iload_n 2, 1) := by decide +kernel
theorem dX8_busyShare_38 : decode cX8_busyShare 38 = .ok (.aload_n 0, 1) := by decide +kernel
theorem dX8_busyShare_39 : decode cX8_busyShare 39 = .ok (.aload 6, 2) := by decide +kernel
theorem dX8_busyShare_41 : decode cX8_busyShare 41 = .ok (.getfield 289, 3) := by decide +kernel
theorem dX8_busyShare_44 : decode cX8_busyShare 44 = .ok (.invokevirtual 151, 3) := by decide +kernel
theorem dX8_busyShare_47 : decode cX8_busyShare 47 = .ok (.ifnull 7, 3) := by decide +kernel
theorem dX8_busyShare_50 : decode cX8_busyShare 50 = .ok (.iconst 1, 1) := by decide +kernel
theorem dX8_busyShare_51 : decode cX8_busyShare 51 = .ok (.goto 4, 3) := by decide +kernel
theorem dX8_busyShare_54 : decode cX8_busyShare 54 = .ok (.iconst 0, 1) := by decide +kernel
theorem dX8_busyShare_55 : decode cX8_busyShare 55 = .ok (.iadd, 1) := by decide +kernel
theorem dX8_busyShare_56 : decode cX8_busyShare 56 = .ok (.istore_n 2, 1) := by decide +kernel
theorem dX8_busyShare_57 : decode cX8_busyShare 57 = .ok (.iinc 5 1, 3) := by decide +kernel
theorem dX8_busyShare_60 : decode cX8_busyShare 60 = .ok (.goto (-44), 3) := by decide +kernel
theorem dX8_busyShare_63 : decode cX8_busyShare 63 = .ok (.iload_n 1, 1) := by decide +kernel
theorem dX8_busyShare_64 : decode cX8_busyShare 64 = .ok (.ifCond .ne 14, 3) := by decide +kernel
theorem dX8_busyShare_67 : decode cX8_busyShare 67 = .ok (.new 190, 3) := by decide +kernel
theorem dX8_busyShare_70 : decode cX8_busyShare 70 = .ok (.dup, 1) := by decide +kernel
theorem dX8_busyShare_71 : decode cX8_busyShare 71 = .ok (.ldc_w 292, 3) := by decide +kernel
theorem dX8_busyShare_74 : decode cX8_busyShare 74 = .ok (.invokespecial 194, 3) := by decide +kernel
theorem dX8_busyShare_77 : decode cX8_busyShare 77 = .ok (.athrow, 1) := by decide +kernel
theorem dX8_busyShare_78 : decode cX8_busyShare 78 = .ok (.iload_n 2, 1) := by decide +kernel
theorem dX8_busyShare_79 : decode cX8_busyShare 79 = .ok (.i2f, 1) := by decide +kernel
theorem dX8_busyShare_80 : decode cX8_busyShare 80 = .ok (.iload_n 1, 1) := by decide +kernel
theorem dX8_busyShare_81 : decode cX8_busyShare 81 = .ok (.i2f, 1) := by decide +kernel
theorem dX8_busyShare_82 : decode cX8_busyShare 82 = .ok (.fdiv, 1) := by decide +kernel
theorem dX8_busyShare_83 : decode cX8_busyShare 83 = .ok (.freturn, 1) := by decide +kernel
set_option maxRecDepth 20000 in
theorem ggX8_meanDegrees_X0_become : GoodIn wsX8_meanDegrees wsX0_become := goodIn_r _ [11, 12, 13, 14, 15, 16, 10, 17, 18, 19, 20, 21, 22, 23, 24, 25, 26, 27, 28, 78, 79] (by decide +kernel) (by decide +kernel)
set_option maxRecDepth 20000 in
theorem gX8_meanDegrees_X0_become : GoodIn wsX8_meanDegrees (wsV RX8 212 RX0 yX0_become wsX0_become) := goodIn_app (goodIn_of _ (by decide +kernel)) ggX8_meanDegrees_X0_become
set_option maxRecDepth 20000 in
theorem ggX8_meanDegrees_X0_add : GoodIn wsX8_meanDegrees wsX0_add := goodIn_r _ [32, 12, 33, 13, 14, 15, 16, 10, 17, 18, 19, 20, 21, 22, 23, 24, 34, 35, 36, 37, 25, 26, 27, 28, 78, 79] (by decide +kernel) (by decide +kernel)
set_option maxRecDepth 20000 in
theorem gX8_meanDegrees_X0_add : GoodIn wsX8_meanDegrees (wsV RX8 294 RX0 yX0_add wsX0_add) := goodIn_app (goodIn_of _ (by decide +kernel)) ggX8_meanDegrees_X0_add
set_option maxRecDepth 20000 in
theorem ggX8_meanDegrees_X0_toDouble : GoodIn wsX8_meanDegrees wsX0_toDouble := goodIn_r _ [41, 12, 42, 43, 44, 14, 15, 16, 10, 17, 13, 18, 19, 20, 21, 22, 23, 24, 78, 79] (by decide +kernel) (by decide +kernel)
set_option maxRecDepth 20000 in
theorem gX8_meanDegrees_X0_toDouble : GoodIn wsX8_meanDegrees (wsV RX8 297 RX0 yX0_toDouble wsX0_toDouble) := goodIn_app (goodIn_of _ (by decide +kernel)) ggX8_meanDegrees_X0_toDouble
theorem dX8_meanDegrees_0 : decode cX8_meanDegrees 0 = .ok (.iconst 0, 1) := by decide +kernel
theorem dX8_meanDegrees_1 : decode cX8_meanDegrees 1 = .ok (.istore_n 1, 1) := by decide +kernel
theorem dX8_meanDegrees_2 : decode cX8_meanDegrees 2 = .ok (.aload_n 0, 1) := by decide +kernel
theorem dX8_meanDegrees_3 : decode cX8_meanDegrees 3 = .ok (.getfield 55, 3) := by decide +kernel
theorem dX8_meanDegrees_6 : decode cX8_meanDegrees 6 = .ok (.iconst 0, 1) := by decide +kernel
theorem dX8_meanDegrees_7 : decode cX8_meanDegrees 7 = .ok (.invokevirtual 212, 3) := by decide +kernel
theorem dX8_meanDegrees_10 : decode cX8_meanDegrees 10 = .ok (.aload_n 0, 1) := by decide +kernel
theorem dX8_meanDegrees_11 : decode cX8_meanDegrees 11 = .ok (.getfield 17, 3) := by decide +kernel
theorem dX8_meanDegrees_14 : decode cX8_meanDegrees 14 = .ok (.astore_n 2, 1) := by decide +kernel
theorem dX8_meanDegrees_15 : decode cX8_meanDegrees 15 = .ok (.aload_n 2, 1) := by decide +kernel
theorem dX8_meanDegrees_16 : decode cX8_meanDegrees 16 = .ok (.arraylength, 1) := by decide +kernel
theorem dX8_meanDegrees_17 : decode cX8_meanDegrees 17 = .ok (.istore_n 3, 1) := by decide +kernel
theorem dX8_meanDegrees_18 : decode cX8_meanDegrees 18 = .ok (.iconst 0, 1) := by decide +kernel
theorem dX8_meanDegrees_19 : decode cX8_meanDegrees 19 = .ok (.istore 4, 2) := by decide +kernel
theorem dX8_meanDegrees_21 : decode cX8_meanDegrees 21 = .ok (.iload 4, 2) := by decide +kernel
theorem dX8_meanDegrees_23 : decode cX8_meanDegrees 23 = .ok (.iload_n 3, 1) := by decide +kernel
theorem dX8_meanDegrees_24 : decode cX8_meanDegrees 24 = .ok (.if_icmp .ge 38, 3) := by decide +kernel
theorem dX8_meanDegrees_27 : decode cX8_meanDegrees 27 = .ok (.aload_n 2, 1) := by decide +kernel
theorem dX8_meanDegrees_28 : decode cX8_meanDegrees 28 = .ok (.iload 4, 2) := by decide +kernel
theorem dX8_meanDegrees_30 : decode cX8_meanDegrees 30 = .ok (.aaload, 1) := by decide +kernel
theorem dX8_meanDegrees_31 : decode cX8_meanDegrees 31 = .ok (.astore 5, 2) := by decide +kernel
theorem dX8_meanDegrees_33 : decode cX8_meanDegrees 33 = .ok (.aload 5, 2) := by decide +kernel
theorem dX8_meanDegrees_35 : decode cX8_meanDegrees 35 = .ok (.ifnull 21, 3) := by decide +kernel
theorem dX8_meanDegrees_38 : decode cX8_meanDegrees 38 = .ok (.iinc 1 1, 3) := by decide +kernel
theorem dX8_meanDegrees_41 : decode cX8_meanDegrees 41 = .ok (.aload_n 0, 1) := by decide +kernel
theorem dX8_meanDegrees_42 : decode cX8_meanDegrees 42 = .ok (.getfield 55, 3) := by decide +kernel
theorem dX8_meanDegrees_45 : decode cX8_meanDegrees 45 = .ok (.aload 5, 2) := by decide +kernel
theorem dX8_meanDegrees_47 : decode cX8_meanDegrees 47 = .ok (.getfield 167, 3) := by decide +kernel
theorem dX8_meanDegrees_50 : decode cX8_meanDegrees 50 = .ok (.getfield 180, 3) := by decide +kernel
theorem dX8_meanDegrees_53 : decode cX8_meanDegrees 53 = .ok (.invokevirtual 294, 3) := by decide +kernel
theorem dX8_meanDegrees_56 : decode cX8_meanDegrees 56 = .ok (.iinc 4 1, 3) := by decide +kernel
theorem dX8_meanDegrees_59 : decode cX8_meanDegrees 59 = .ok (.goto (-38), 3) := by decide +kernel
theorem dX8_meanDegrees_62 : decode cX8_meanDegrees 62 = .ok (.iload_n 1, 1) := by decide +kernel
theorem dX8_meanDegrees_63 : decode cX8_meanDegrees 63 = .ok (.ifCond .ne 14, 3) := by decide +kernel
theorem dX8_meanDegrees_66 : decode cX8_meanDegrees 66 = .ok (.new 190, 3) := by decide +kernel
theorem dX8_meanDegrees_69 : decode cX8_meanDegrees 69 = .ok (.dup, 1) := by decide +kernel
theorem dX8_meanDegrees_70 : decode cX8_meanDegrees 70 = .ok (.ldc_w 292, 3) := by decide +kernel
theorem dX8_meanDegrees_73 : decode cX8_meanDegrees 73 = .ok (.invokespecial 194, 3) := by decide +kernel
theorem dX8_meanDegrees_76 : decode cX8_meanDegrees 76 = .ok (.athrow, 1) := by decide +kernel
theorem dX8_meanDegrees_77 : decode cX8_meanDegrees 77 = .ok (.aload_n 0, 1) := by decide +kernel
theorem dX8_meanDegrees_78 : decode cX8_meanDegrees 78 = .ok (.getfield 55, 3) := by decide +kernel
theorem dX8_meanDegrees_81 : decode cX8_meanDegrees 81 = .ok (.invokevirtual 297, 3) := by decide +kernel
theorem dX8_meanDegrees_84 : decode cX8_meanDegrees 84 = .ok (.iload_n 1, 1) := by decide +kernel
theorem dX8_meanDegrees_85 : decode cX8_meanDegrees 85 = .ok (.i2d, 1) := by decide +kernel
theorem dX8_meanDegrees_86 : decode cX8_meanDegrees 86 = .ok (.ddiv, 1) := by decide +kernel
theorem dX8_meanDegrees_87 : decode cX8_meanDegrees 87 = .ok (.dreturn, 1) := by decide +kernel
set_option maxRecDepth 20000 in
theorem ggX8_isSound_X0_lowBits : GoodIn wsX8_isSound wsX0_lowBits := goodIn_r _ [20, 21, 70, 71] (by decide +kernel) (by decide +kernel)
set_option maxRecDepth 20000 in
theorem gX8_isSound_X0_lowBits : GoodIn wsX8_isSound (wsV RX8 176 RX0 yX0_lowBits wsX0_lowBits) := goodIn_app (goodIn_of _ (by decide +kernel)) ggX8_isSound_X0_lowBits
theorem dX8_isSound_0 : decode cX8_isSound 0 = .ok (.aload_n 0, 1) := by decide +kernel
theorem dX8_isSound_1 : decode cX8_isSound 1 = .ok (.getfield 30, 3) := by decide +kernel
theorem dX8_isSound_4 : decode cX8_isSound 4 = .ok (.getfield 183, 3) := by decide +kernel
theorem dX8_isSound_7 : decode cX8_isSound 7 = .ok (.getfield 171, 3) := by decide +kernel
theorem dX8_isSound_10 : decode cX8_isSound 10 = .ok (.invokevirtual 176, 3) := by decide +kernel
theorem dX8_isSound_13 : decode cX8_isSound 13 = .ok (.lstore_n 1, 1) := by decide +kernel
theorem dX8_isSound_14 : decode cX8_isSound 14 = .ok (.ldc2_w 301, 3) := by decide +kernel
theorem dX8_isSound_17 : decode cX8_isSound 17 = .ok (.lstore_n 3, 1) := by decide +kernel
theorem dX8_isSound_18 : decode cX8_isSound 18 = .ok (.aload_n 0, 1) := by decide +kernel
theorem dX8_isSound_19 : decode cX8_isSound 19 = .ok (.getfield 17, 3) := by decide +kernel
theorem dX8_isSound_22 : decode cX8_isSound 22 = .ok (.astore 5, 2) := by decide +kernel
theorem dX8_isSound_24 : decode cX8_isSound 24 = .ok (.aload 5, 2) := by decide +kernel
theorem dX8_isSound_26 : decode cX8_isSound 26 = .ok (.arraylength, 1) := by decide +kernel
theorem dX8_isSound_27 : decode cX8_isSound 27 = .ok (.istore 6, 2) := by decide +kernel
theorem dX8_isSound_29 : decode cX8_isSound 29 = .ok (.iconst 0, 1) := by decide +kernel
theorem dX8_isSound_30 : decode cX8_isSound 30 = .ok (.istore 7, 2) := by decide +kernel
theorem dX8_isSound_32 : decode cX8_isSound 32 = .ok (.iload 7, 2) := by decide +kernel
theorem dX8_isSound_34 : decode cX8_isSound 34 = .ok (.iload 6, 2) := by decide +kernel
theorem dX8_isSound_36 : decode cX8_isSound 36 = .ok (.if_icmp .ge 41, 3) := by decide +kernel
theorem dX8_isSound_39 : decode cX8_isSound 39 = .ok (.aload 5, 2) := by decide +kernel
theorem dX8_isSound_41 : decode cX8_isSound 41 = .ok (.iload 7, 2) := by decide +kernel
theorem dX8_isSound_43 : decode cX8_isSound 43 = .ok (.aaload, 1) := by decide +kernel
theorem dX8_isSound_44 : decode cX8_isSound 44 = .ok (.astore 8, 2) := by decide +kernel
theorem dX8_isSound_46 : decode cX8_isSound 46 = .ok (.aload 8, 2) := by decide +kernel
theorem dX8_isSound_48 : decode cX8_isSound 48 = .ok (.ifnull 23, 3) := by decide +kernel
theorem dX8_isSound_51 : decode cX8_isSound 51 = .ok (.lload_n 1, 1) := by decide +kernel
theorem dX8_isSound_52 : decode cX8_isSound 52 = .ok (.aload 8, 2) := by decide +kernel
theorem dX8_isSound_54 : decode cX8_isSound 54 = .ok (.getfield 167, 3) := by decide +kernel
theorem dX8_isSound_57 : decode cX8_isSound 57 = .ok (.getfield 171, 3) := by decide +kernel
theorem dX8_isSound_60 : decode cX8_isSound 60 = .ok (.invokevirtual 176, 3) := by decide +kernel
theorem dX8_isSound_63 : decode cX8_isSound 63 = .ok (.ladd, 1) := by decide +kernel
theorem dX8_isSound_64 : decode cX8_isSound 64 = .ok (.lstore_n 1, 1) := by decide +kernel
theorem dX8_isSound_65 : decode cX8_isSound 65 = .ok (.lload_n 3, 1) := by decide +kernel
theorem dX8_isSound_66 : decode cX8_isSound 66 = .ok (.ldc2_w 303, 3) := by decide +kernel
theorem dX8_isSound_69 : decode cX8_isSound 69 = .ok (.ladd, 1) := by decide +kernel
theorem dX8_isSound_70 : decode cX8_isSound 70 = .ok (.lstore_n 3, 1) := by decide +kernel
theorem dX8_isSound_71 : decode cX8_isSound 71 = .ok (.iinc 7 1, 3) := by decide +kernel
theorem dX8_isSound_74 : decode cX8_isSound 74 = .ok (.goto (-42), 3) := by decide +kernel
theorem dX8_isSound_77 : decode cX8_isSound 77 = .ok (.lload_n 1, 1) := by decide +kernel
theorem dX8_isSound_78 : decode cX8_isSound 78 = .ok (.aload_n 0, 1) := by decide +kernel
theorem dX8_isSound_79 : decode cX8_isSound 79 = .ok (.getfield 30, 3) := by decide +kernel
theorem dX8_isSound_82 : decode cX8_isSound 82 = .ok (.getfield 277, 3) := by decide +kernel
theorem dX8_isSound_85 : decode cX8_isSound 85 = .ok (.ladd, 1) := by decide +kernel
theorem dX8_isSound_86 : decode cX8_isSound 86 = .ok (.lload_n 3, 1) := by decide +kernel
theorem dX8_isSound_87 : decode cX8_isSound 87 = .ok (.aload_n 0, 1) := by decide +kernel
theorem dX8_isSound_88 : decode cX8_isSound 88 = .ok (.getfield 37, 3) := by decide +kernel
theorem dX8_isSound_91 : decode cX8_isSound 91 = .ok (.getfield 280, 3) := by decide +kernel
theorem dX8_isSound_94 : decode cX8_isSound 94 = .ok (.ladd, 1) := by decide +kernel
theorem dX8_isSound_95 : decode cX8_isSound 95 = .ok (.aload_n 0, 1) := by decide +kernel
theorem dX8_isSound_96 : decode cX8_isSound 96 = .ok (.getfield 62, 3) := by decide +kernel
theorem dX8_isSound_99 : decode cX8_isSound 99 = .ok (.ladd, 1) := by decide +kernel
theorem dX8_isSound_100 : decode cX8_isSound 100 = .ok (.lcmp, 1) := by decide +kernel
theorem dX8_isSound_101 : decode cX8_isSound 101 = .ok (.ifCond .ne 7, 3) := by decide +kernel
theorem dX8_isSound_104 : decode cX8_isSound 104 = .ok (.iconst 1, 1) := by decide +kernel
theorem dX8_isSound_105 : decode cX8_isSound 105 = .ok (.goto 4, 3) := by decide +kernel
theorem dX8_isSound_108 : decode cX8_isSound 108 = .ok (.iconst 0, 1) := by decide +kernel
theorem dX8_isSound_109 : decode cX8_isSound 109 = .ok (.istore 5, 2) := by decide +kernel
theorem dX8_isSound_111 : decode cX8_isSound 111 = .ok (.aload_n 0, 1) := by decide +kernel
theorem dX8_isSound_112 : decode cX8_isSound 112 = .ok (.getfield 37, 3) := by decide +kernel
theorem dX8_isSound_115 : decode cX8_isSound 115 = .ok (.getfield 280, 3) := by decide +kernel
theorem dX8_isSound_118 : decode cX8_isSound 118 = .ok (.aload_n 0, 1) := by decide +kernel
theorem dX8_isSound_119 : decode cX8_isSound 119 = .ok (.getfield 37, 3) := by decide +kernel
theorem dX8_isSound_122 : decode cX8_isSound 122 = .ok (.getfield 268, 3) := by decide +kernel
theorem dX8_isSound_125 : decode cX8_isSound 125 = .ok (.aload_n 0, 1) := by decide +kernel
theorem dX8_isSound_126 : decode cX8_isSound 126 = .ok (.getfield 37, 3) := by decide +kernel
theorem dX8_isSound_129 : decode cX8_isSound 129 = .ok (.getfield 271, 3) := by decide +kernel
theorem dX8_isSound_132 : decode cX8_isSound 132 = .ok (.ladd, 1) := by decide +kernel
theorem dX8_isSound_133 : decode cX8_isSound 133 = .ok (.aload_n 0, 1) := by decide +kernel
theorem dX8_isSound_134 : decode cX8_isSound 134 = .ok (.getfield 37, 3) := by decide +kernel
theorem dX8_isSound_137 : decode cX8_isSound 137 = .ok (.getfield 274, 3) := by decide +kernel
theorem dX8_isSound_140 : decode cX8_isSound 140 = .ok (.ladd, 1) := by decide +kernel
theorem dX8_isSound_141 : decode cX8_isSound 141 = .ok (.lcmp, 1) := by decide +kernel
theorem dX8_isSound_142 : decode cX8_isSound 142 = .ok (.ifCond .ne 7, 3) := by decide +kernel
theorem dX8_isSound_145 : decode cX8_isSound 145 = .ok (.iconst 1, 1) := by decide +kernel
theorem dX8_isSound_146 : decode cX8_isSound 146 = .ok (.goto 4, 3) := by decide +kernel
theorem dX8_isSound_149 : decode cX8_isSound 149 = .ok (.iconst 0, 1) := by decide +kernel
theorem dX8_isSound_150 : decode cX8_isSound 150 = .ok (.istore 6, 2) := by decide +kernel
theorem dX8_isSound_152 : decode cX8_isSound 152 = .ok (.iload 5, 2) := by decide +kernel
theorem dX8_isSound_154 : decode cX8_isSound 154 = .ok (.ifCond .eq 35, 3) := by decide +kernel
theorem dX8_isSound_157 : decode cX8_isSound 157 = .ok (.iload 6, 2) := by decide +kernel
theorem dX8_isSound_159 : decode cX8_isSound 159 = .ok (.ifCond .eq 30, 3) := by decide +kernel
theorem dX8_isSound_162 : decode cX8_isSound 162 = .ok (.aload_n 0, 1) := by decide +kernel
theorem dX8_isSound_163 : decode cX8_isSound 163 = .ok (.getfield 37, 3) := by decide +kernel
theorem dX8_isSound_166 : decode cX8_isSound 166 = .ok (.getfield 223, 3) := by decide +kernel
theorem dX8_isSound_169 : decode cX8_isSound 169 = .ok (.ifCond .lt 20, 3) := by decide +kernel
theorem dX8_isSound_172 : decode cX8_isSound 172 = .ok (.aload_n 0, 1) := by decide +kernel
theorem dX8_isSound_173 : decode cX8_isSound 173 = .ok (.getfield 37, 3) := by decide +kernel
theorem dX8_isSound_176 : decode cX8_isSound 176 = .ok (.getfield 223, 3) := by decide +kernel
theorem dX8_isSound_179 : decode cX8_isSound 179 = .ok (.sipush 5000, 3) := by decide +kernel
theorem dX8_isSound_182 : decode cX8_isSound 182 = .ok (.if_icmp .gt 7, 3) := by decide +kernel
theorem dX8_isSound_185 : decode cX8_isSound 185 = .ok (.iconst 1, 1) := by decide +kernel
theorem dX8_isSound_186 : decode cX8_isSound 186 = .ok (.goto 4, 3) := by decide +kernel
theorem dX8_isSound_189 : decode cX8_isSound 189 = .ok (.iconst 0, 1) := by decide +kernel
theorem dX8_isSound_190 : decode cX8_isSound 190 = .ok (.ireturn, 1) := by decide +kernel
theorem dX8_isFrom_0 : decode cX8_isFrom 0 = .ok (.iload_n 1, 1) := by decide +kernel
theorem dX8_isFrom_1 : decode cX8_isFrom 1 = .ok (.iload_n 0, 1) := by decide +kernel
theorem dX8_isFrom_2 : decode cX8_isFrom 2 = .ok (.if_icmp .lt 12, 3) := by decide +kernel
theorem dX8_isFrom_5 : decode cX8_isFrom 5 = .ok (.iload_n 1, 1) := by decide +kernel
theorem dX8_isFrom_6 : decode cX8_isFrom 6 = .ok (.iload_n 2, 1) := by decide +kernel
theorem dX8_isFrom_7 : decode cX8_isFrom 7 = .ok (.if_icmp .gt 7, 3) := by decide +kernel
theorem dX8_isFrom_10 : decode cX8_isFrom 10 = .ok (.iconst 1, 1) := by decide +kernel
theorem dX8_isFrom_11 : decode cX8_isFrom 11 = .ok (.goto 4, 3) := by decide +kernel
theorem dX8_isFrom_14 : decode cX8_isFrom 14 = .ok (.iconst 0, 1) := by decide +kernel
theorem dX8_isFrom_15 : decode cX8_isFrom 15 = .ok (.ireturn, 1) := by decide +kernel
theorem dX8_railAt_0 : decode cX8_railAt 0 = .ok (.iload_n 1, 1) := by decide +kernel
theorem dX8_railAt_1 : decode cX8_railAt 1 = .ok (.ifCond .lt 12, 3) := by decide +kernel
theorem dX8_railAt_4 : decode cX8_railAt 4 = .ok (.iload_n 1, 1) := by decide +kernel
theorem dX8_railAt_5 : decode cX8_railAt 5 = .ok (.aload_n 0, 1) := by decide +kernel
theorem dX8_railAt_6 : decode cX8_railAt 6 = .ok (.getfield 11, 3) := by decide +kernel
theorem dX8_railAt_9 : decode cX8_railAt 9 = .ok (.arraylength, 1) := by decide +kernel
theorem dX8_railAt_10 : decode cX8_railAt 10 = .ok (.if_icmp .lt 7, 3) := by decide +kernel
theorem dX8_railAt_13 : decode cX8_railAt 13 = .ok (.aconst_null, 1) := by decide +kernel
theorem dX8_railAt_14 : decode cX8_railAt 14 = .ok (.goto 9, 3) := by decide +kernel
theorem dX8_railAt_17 : decode cX8_railAt 17 = .ok (.aload_n 0, 1) := by decide +kernel
theorem dX8_railAt_18 : decode cX8_railAt 18 = .ok (.getfield 11, 3) := by decide +kernel
theorem dX8_railAt_21 : decode cX8_railAt 21 = .ok (.iload_n 1, 1) := by decide +kernel
theorem dX8_railAt_22 : decode cX8_railAt 22 = .ok (.aaload, 1) := by decide +kernel
theorem dX8_railAt_23 : decode cX8_railAt 23 = .ok (.astore_n 2, 1) := by decide +kernel
theorem dX8_railAt_24 : decode cX8_railAt 24 = .ok (.aload_n 2, 1) := by decide +kernel
theorem dX8_railAt_25 : decode cX8_railAt 25 = .ok (.ifnonnull 14, 3) := by decide +kernel
theorem dX8_railAt_28 : decode cX8_railAt 28 = .ok (.new 305, 3) := by decide +kernel
theorem dX8_railAt_31 : decode cX8_railAt 31 = .ok (.dup, 1) := by decide +kernel
theorem dX8_railAt_32 : decode cX8_railAt 32 = .ok (.ldc_w 307, 3) := by decide +kernel
theorem dX8_railAt_35 : decode cX8_railAt 35 = .ok (.invokespecial 309, 3) := by decide +kernel
theorem dX8_railAt_38 : decode cX8_railAt 38 = .ok (.athrow, 1) := by decide +kernel
theorem dX8_railAt_39 : decode cX8_railAt 39 = .ok (.aload_n 2, 1) := by decide +kernel
theorem dX8_railAt_40 : decode cX8_railAt 40 = .ok (.areturn, 1) := by decide +kernel
theorem dX8_coreAt_0 : decode cX8_coreAt 0 = .ok (.iload_n 1, 1) := by decide +kernel
theorem dX8_coreAt_1 : decode cX8_coreAt 1 = .ok (.ifCond .lt 12, 3) := by decide +kernel
theorem dX8_coreAt_4 : decode cX8_coreAt 4 = .ok (.iload_n 1, 1) := by decide +kernel
theorem dX8_coreAt_5 : decode cX8_coreAt 5 = .ok (.aload_n 0, 1) := by decide +kernel
theorem dX8_coreAt_6 : decode cX8_coreAt 6 = .ok (.getfield 17, 3) := by decide +kernel
theorem dX8_coreAt_9 : decode cX8_coreAt 9 = .ok (.arraylength, 1) := by decide +kernel
theorem dX8_coreAt_10 : decode cX8_coreAt 10 = .ok (.if_icmp .lt 7, 3) := by decide +kernel
theorem dX8_coreAt_13 : decode cX8_coreAt 13 = .ok (.aconst_null, 1) := by decide +kernel
theorem dX8_coreAt_14 : decode cX8_coreAt 14 = .ok (.goto 9, 3) := by decide +kernel
theorem dX8_coreAt_17 : decode cX8_coreAt 17 = .ok (.aload_n 0, 1) := by decide +kernel
theorem dX8_coreAt_18 : decode cX8_coreAt 18 = .ok (.getfield 17, 3) := by decide +kernel
theorem dX8_coreAt_21 : decode cX8_coreAt 21 = .ok (.iload_n 1, 1) := by decide +kernel
theorem dX8_coreAt_22 : decode cX8_coreAt 22 = .ok (.aaload, 1) := by decide +kernel
theorem dX8_coreAt_23 : decode cX8_coreAt 23 = .ok (.astore_n 2, 1) := by decide +kernel
theorem dX8_coreAt_24 : decode cX8_coreAt 24 = .ok (.aload_n 2, 1) := by decide +kernel
theorem dX8_coreAt_25 : decode cX8_coreAt 25 = .ok (.ifnonnull 14, 3) := by decide +kernel
theorem dX8_coreAt_28 : decode cX8_coreAt 28 = .ok (.new 305, 3) := by decide +kernel
theorem dX8_coreAt_31 : decode cX8_coreAt 31 = .ok (.dup, 1) := by decide +kernel
theorem dX8_coreAt_32 : decode cX8_coreAt 32 = .ok (.ldc_w 310, 3) := by decide +kernel
theorem dX8_coreAt_35 : decode cX8_coreAt 35 = .ok (.invokespecial 309, 3) := by decide +kernel
theorem dX8_coreAt_38 : decode cX8_coreAt 38 = .ok (.athrow, 1) := by decide +kernel
theorem dX8_coreAt_39 : decode cX8_coreAt 39 = .ok (.aload_n 2, 1) := by decide +kernel
theorem dX8_coreAt_40 : decode cX8_coreAt 40 = .ok (.areturn, 1) := by decide +kernel
theorem dX8_taskAt_0 : decode cX8_taskAt 0 = .ok (.iload_n 1, 1) := by decide +kernel
theorem dX8_taskAt_1 : decode cX8_taskAt 1 = .ok (.ifCond .lt 12, 3) := by decide +kernel
theorem dX8_taskAt_4 : decode cX8_taskAt 4 = .ok (.iload_n 1, 1) := by decide +kernel
theorem dX8_taskAt_5 : decode cX8_taskAt 5 = .ok (.aload_n 0, 1) := by decide +kernel
theorem dX8_taskAt_6 : decode cX8_taskAt 6 = .ok (.getfield 23, 3) := by decide +kernel
theorem dX8_taskAt_9 : decode cX8_taskAt 9 = .ok (.arraylength, 1) := by decide +kernel
theorem dX8_taskAt_10 : decode cX8_taskAt 10 = .ok (.if_icmp .lt 7, 3) := by decide +kernel
theorem dX8_taskAt_13 : decode cX8_taskAt 13 = .ok (.aconst_null, 1) := by decide +kernel
theorem dX8_taskAt_14 : decode cX8_taskAt 14 = .ok (.goto 9, 3) := by decide +kernel
theorem dX8_taskAt_17 : decode cX8_taskAt 17 = .ok (.aload_n 0, 1) := by decide +kernel
theorem dX8_taskAt_18 : decode cX8_taskAt 18 = .ok (.getfield 23, 3) := by decide +kernel
theorem dX8_taskAt_21 : decode cX8_taskAt 21 = .ok (.iload_n 1, 1) := by decide +kernel
theorem dX8_taskAt_22 : decode cX8_taskAt 22 = .ok (.aaload, 1) := by decide +kernel
theorem dX8_taskAt_23 : decode cX8_taskAt 23 = .ok (.astore_n 2, 1) := by decide +kernel
theorem dX8_taskAt_24 : decode cX8_taskAt 24 = .ok (.aload_n 2, 1) := by decide +kernel
theorem dX8_taskAt_25 : decode cX8_taskAt 25 = .ok (.ifnonnull 14, 3) := by decide +kernel
theorem dX8_taskAt_28 : decode cX8_taskAt 28 = .ok (.new 305, 3) := by decide +kernel
theorem dX8_taskAt_31 : decode cX8_taskAt 31 = .ok (.dup, 1) := by decide +kernel
theorem dX8_taskAt_32 : decode cX8_taskAt 32 = .ok (.ldc_w 312, 3) := by decide +kernel
theorem dX8_taskAt_35 : decode cX8_taskAt 35 = .ok (.invokespecial 309, 3) := by decide +kernel
theorem dX8_taskAt_38 : decode cX8_taskAt 38 = .ok (.athrow, 1) := by decide +kernel
theorem dX8_taskAt_39 : decode cX8_taskAt 39 = .ok (.aload_n 2, 1) := by decide +kernel
theorem dX8_taskAt_40 : decode cX8_taskAt 40 = .ok (.areturn, 1) := by decide +kernel
theorem dX8_runningOn_0 : decode cX8_runningOn 0 = .ok (.aload_n 0, 1) := by decide +kernel
theorem dX8_runningOn_1 : decode cX8_runningOn 1 = .ok (.getfield 23, 3) := by decide +kernel
theorem dX8_runningOn_4 : decode cX8_runningOn 4 = .ok (.astore_n 2, 1) := by decide +kernel
theorem dX8_runningOn_5 : decode cX8_runningOn 5 = .ok (.aload_n 2, 1) := by decide +kernel
theorem dX8_runningOn_6 : decode cX8_runningOn 6 = .ok (.arraylength, 1) := by decide +kernel
theorem dX8_runningOn_7 : decode cX8_runningOn 7 = .ok (.istore_n 3, 1) := by decide +kernel
theorem dX8_runningOn_8 : decode cX8_runningOn 8 = .ok (.iconst 0, 1) := by decide +kernel
theorem dX8_runningOn_9 : decode cX8_runningOn 9 = .ok (.istore 4, 2) := by decide +kernel
theorem dX8_runningOn_11 : decode cX8_runningOn 11 = .ok (.iload 4, 2) := by decide +kernel
theorem dX8_runningOn_13 : decode cX8_runningOn 13 = .ok (.iload_n 3, 1) := by decide +kernel
theorem dX8_runningOn_14 : decode cX8_runningOn 14 = .ok (.if_icmp .ge 40, 3) := by decide +kernel
theorem dX8_runningOn_17 : decode cX8_runningOn 17 = .ok (.aload_n 2, 1) := by decide +kernel
theorem dX8_runningOn_18 : decode cX8_runningOn 18 = .ok (.iload 4, 2) := by decide +kernel
theorem dX8_runningOn_20 : decode cX8_runningOn 20 = .ok (.aaload, 1) := by decide +kernel
theorem dX8_runningOn_21 : decode cX8_runningOn 21 = .ok (.astore 5, 2) := by decide +kernel
theorem dX8_runningOn_23 : decode cX8_runningOn 23 = .ok (.aload 5, 2) := by decide +kernel
theorem dX8_runningOn_25 : decode cX8_runningOn 25 = .ok (.ifnull 23, 3) := by decide +kernel
theorem dX8_runningOn_28 : decode cX8_runningOn 28 = .ok (.aload 5, 2) := by decide +kernel
theorem dX8_runningOn_30 : decode cX8_runningOn 30 = .ok (.getfield 112, 3) := by decide +kernel
theorem dX8_runningOn_33 : decode cX8_runningOn 33 = .ok (.iload_n 1, 1) := by decide +kernel
theorem dX8_runningOn_34 : decode cX8_runningOn 34 = .ok (.if_icmp .ne 14, 3) := by decide +kernel
theorem dX8_runningOn_37 : decode cX8_runningOn 37 = .ok (.aload 5, 2) := by decide +kernel
theorem dX8_runningOn_39 : decode cX8_runningOn 39 = .ok (.getfield 106, 3) := by decide +kernel
theorem dX8_runningOn_42 : decode cX8_runningOn 42 = .ok (.ifCond .le 6, 3) := by decide +kernel
theorem dX8_runningOn_45 : decode cX8_runningOn 45 = .ok (.aload 5, 2) := by decide +kernel
theorem dX8_runningOn_47 : decode cX8_runningOn 47 = .ok (.areturn, 1) := by decide +kernel
theorem dX8_runningOn_48 : decode cX8_runningOn 48 = .ok (.iinc 4 1, 3) := by decide +kernel
theorem dX8_runningOn_51 : decode cX8_runningOn 51 = .ok (.goto (-40), 3) := by decide +kernel
theorem dX8_runningOn_54 : decode cX8_runningOn 54 = .ok (.aconst_null, 1) := by decide +kernel
theorem dX8_runningOn_55 : decode cX8_runningOn 55 = .ok (.areturn, 1) := by decide +kernel
theorem dX8_threadsWithWorkOn_0 : decode cX8_threadsWithWorkOn 0 = .ok (.iconst 0, 1) := by decide +kernel
theorem dX8_threadsWithWorkOn_1 : decode cX8_threadsWithWorkOn 1 = .ok (.istore_n 2, 1) := by decide +kernel
theorem dX8_threadsWithWorkOn_2 : decode cX8_threadsWithWorkOn 2 = .ok (.aload_n 0, 1) := by decide +kernel
theorem dX8_threadsWithWorkOn_3 : decode cX8_threadsWithWorkOn 3 = .ok (.getfield 23, 3) := by decide +kernel
theorem dX8_threadsWithWorkOn_6 : decode cX8_threadsWithWorkOn 6 = .ok (.astore_n 3, 1) := by decide +kernel
theorem dX8_threadsWithWorkOn_7 : decode cX8_threadsWithWorkOn 7 = .ok (.aload_n 3, 1) := by decide +kernel
theorem dX8_threadsWithWorkOn_8 : decode cX8_threadsWithWorkOn 8 = .ok (.arraylength, 1) := by decide +kernel
theorem dX8_threadsWithWorkOn_9 : decode cX8_threadsWithWorkOn 9 = .ok (.istore 4, 2) := by decide +kernel
theorem dX8_threadsWithWorkOn_11 : decode cX8_threadsWithWorkOn 11 = .ok (.iconst 0, 1) := by decide +kernel
theorem dX8_threadsWithWorkOn_12 : decode cX8_threadsWithWorkOn 12 = .ok (.istore 5, 2) := by decide +kernel
theorem dX8_threadsWithWorkOn_14 : decode cX8_threadsWithWorkOn 14 = .ok (.iload 5, 2) := by decide +kernel
theorem dX8_threadsWithWorkOn_16 : decode cX8_threadsWithWorkOn 16 = .ok (.iload 4, 2) := by decide +kernel
theorem dX8_threadsWithWorkOn_18 : decode cX8_threadsWithWorkOn 18 = .ok (.if_icmp .ge 40, 3) := by decide +kernel
theorem dX8_threadsWithWorkOn_21 : decode cX8_threadsWithWorkOn 21 = .ok (.aload_n 3, 1) := by decide +kernel
theorem dX8_threadsWithWorkOn_22 : decode cX8_threadsWithWorkOn 22 = .ok (.iload 5, 2) := by decide +kernel
theorem dX8_threadsWithWorkOn_24 : decode cX8_threadsWithWorkOn 24 = .ok (.aaload, 1) := by decide +kernel
theorem dX8_threadsWithWorkOn_25 : decode cX8_threadsWithWorkOn 25 = .ok (.astore 6, 2) := by decide +kernel
theorem dX8_threadsWithWorkOn_27 : decode cX8_threadsWithWorkOn 27 = .ok (.aload 6, 2) := by decide +kernel
theorem dX8_threadsWithWorkOn_29 : decode cX8_threadsWithWorkOn 29 = .ok (.ifnull 23, 3) := by decide +kernel
theorem dX8_threadsWithWorkOn_32 : decode cX8_threadsWithWorkOn 32 = .ok (.aload 6, 2) := by decide +kernel
theorem dX8_threadsWithWorkOn_34 : decode cX8_threadsWithWorkOn 34 = .ok (.getfield 112, 3) := by decide +kernel
theorem dX8_threadsWithWorkOn_37 : decode cX8_threadsWithWorkOn 37 = .ok (.iload_n 1, 1) := by decide +kernel
theorem dX8_threadsWithWorkOn_38 : decode cX8_threadsWithWorkOn 38 = .ok (.if_icmp .ne 14, 3) := by decide +kernel
theorem dX8_threadsWithWorkOn_41 : decode cX8_threadsWithWorkOn 41 = .ok (.aload 6, 2) := by decide +kernel
theorem dX8_threadsWithWorkOn_43 : decode cX8_threadsWithWorkOn 43 = .ok (.getfield 106, 3) := by decide +kernel
theorem dX8_threadsWithWorkOn_46 : decode cX8_threadsWithWorkOn 46 = .ok (.ifCond .le 6, 3) := by decide +kernel
theorem dX8_threadsWithWorkOn_49 : decode cX8_threadsWithWorkOn 49 = .ok (.iinc 2 1, 3) := by decide +kernel
theorem dX8_threadsWithWorkOn_52 : decode cX8_threadsWithWorkOn 52 = .ok (.iinc 5 1, 3) := by decide +kernel
theorem dX8_threadsWithWorkOn_55 : decode cX8_threadsWithWorkOn 55 = .ok (.goto (-41), 3) := by decide +kernel
theorem dX8_threadsWithWorkOn_58 : decode cX8_threadsWithWorkOn 58 = .ok (.iload_n 2, 1) := by decide +kernel
theorem dX8_threadsWithWorkOn_59 : decode cX8_threadsWithWorkOn 59 = .ok (.ireturn, 1) := by decide +kernel
set_option maxRecDepth 20000 in
theorem ggX8_oneTick_X5_beginToHold : GoodIn wsX8_oneTick wsX5_beginToHold := goodIn_r _ [11, 12, 13, 14, 15, 326, 327, 328, 329, 330, 331, 332] (by decide +kernel) (by decide +kernel)
set_option maxRecDepth 20000 in
theorem gX8_oneTick_X5_beginToHold : GoodIn wsX8_oneTick (wsV RX8 314 RX5 yX5_beginToHold wsX5_beginToHold) := goodIn_app (goodIn_of _ (by decide +kernel)) ggX8_oneTick_X5_beginToHold
set_option maxRecDepth 20000 in
theorem ggX8_oneTick_X8_beginCores : GoodIn wsX8_oneTick wsX8_beginCores := goodIn_r _ [20, 1, 21, 22, 23, 24, 25, 19, 26, 27, 28, 29, 30, 31, 32, 33, 34, 35, 36, 37, 38, 39, 40, 41, 42, 43, 44, 45, 46, 47, 48, 49, 50, 51, 52, 53, 54, 55, 56, 57, 58, 59, 60, 316, 317, 318, 319, 320, 321, 322, 323, 324, 325, 333, 334, 335, 336, 337, 338, 339, 340, 341, 342, 343, 344, 345, 346, 347, 348, 349, 350, 351, 352, 353, 354, 355, 356, 357, 358, 359, 360, 361] (by decide +kernel) (by decide +kernel)
set_option maxRecDepth 20000 in
theorem gX8_oneTick_X8_beginCores : GoodIn wsX8_oneTick (wsV RX8 317 RX8 yX8_beginCores wsX8_beginCores) := goodIn_app (goodIn_of _ (by decide +kernel)) ggX8_oneTick_X8_beginCores
set_option maxRecDepth 20000 in
theorem ggX8_oneTick_X8_sleepAndWake : GoodIn wsX8_oneTick wsX8_sleepAndWake := goodIn_r _ [64, 21, 65, 66, 67, 68, 69, 70, 19, 71, 72, 73, 22, 74, 75, 76, 77, 27, 28, 78, 79, 80, 81, 33, 82, 83, 84, 85, 86, 87, 88, 89, 90, 316, 317, 318, 319, 320, 321, 322, 323, 324, 325, 333, 334, 335, 336, 337, 338, 339, 340, 341, 342, 343, 344, 345, 346, 347, 348, 349, 350, 351, 352, 353, 354, 355, 356] (by decide +kernel) (by decide +kernel)
set_option maxRecDepth 20000 in
theorem gX8_oneTick_X8_sleepAndWake : GoodIn wsX8_oneTick (wsV RX8 320 RX8 yX8_sleepAndWake wsX8_sleepAndWake) := goodIn_app (goodIn_of _ (by decide +kernel)) ggX8_oneTick_X8_sleepAndWake
set_option maxRecDepth 20000 in
theorem ggX8_oneTick_X8_wishAndClamp : GoodIn wsX8_oneTick wsX8_wishAndClamp := goodIn_r _ [94, 21, 22, 95, 96, 97, 19, 98, 27, 28, 29, 99, 100, 101, 33, 102, 103, 104, 36, 105, 106, 107, 108, 109, 110, 111, 112, 113, 114, 115, 116, 117, 118, 119, 120, 121, 122, 123, 124, 125, 126, 6, 127, 128, 129, 2, 130, 131, 65, 132, 133, 134, 135, 136, 137, 138, 139, 55, 140, 141, 142, 143, 144, 145, 316, 317, 318, 319, 320, 321, 322, 323, 324, 325, 333, 334, 335, 336, 337, 338, 339, 340, 341, 342, 343, 344, 345, 346, 347, 348, 349, 350, 351, 352, 353, 354, 355, 356, 362, 363, 364, 365, 366, 367, 368, 369, 370, 371, 326, 327, 328, 329, 330, 331, 332] (by decide +kernel) (by decide +kernel)
set_option maxRecDepth 20000 in
theorem gX8_oneTick_X8_wishAndClamp : GoodIn wsX8_oneTick (wsV RX8 323 RX8 yX8_wishAndClamp wsX8_wishAndClamp) := goodIn_app (goodIn_of _ (by decide +kernel)) ggX8_oneTick_X8_wishAndClamp
set_option maxRecDepth 20000 in
theorem ggX8_oneTick_X8_driveRails : GoodIn wsX8_oneTick wsX8_driveRails := goodIn_r _ [149, 150, 151, 21, 152, 124, 153, 111, 108, 112, 154, 155, 156, 33, 157, 41, 42, 56, 57, 58, 47, 59, 60, 49, 136, 137, 138, 139, 55, 158, 159, 160, 161, 162, 163, 164, 165, 107, 109, 166, 316, 317, 318, 319, 320, 321, 322, 323, 324, 325, 372, 373, 333, 334, 335, 336, 337, 338, 339, 340, 341, 342, 343, 344, 345, 346, 347, 348, 349, 350, 351, 352, 357, 358, 359, 360, 361] (by decide +kernel) (by decide +kernel)
set_option maxRecDepth 20000 in
theorem gX8_oneTick_X8_driveRails : GoodIn wsX8_oneTick (wsV RX8 326 RX8 yX8_driveRails wsX8_driveRails) := goodIn_app (goodIn_of _ (by decide +kernel)) ggX8_oneTick_X8_driveRails
set_option maxRecDepth 20000 in
theorem ggX8_oneTick_X8_letCoresRun : GoodIn wsX8_oneTick wsX8_letCoresRun := goodIn_r _ [170, 21, 22, 171, 172, 173, 174, 33, 175, 144, 105, 176, 177, 178, 155, 156, 157, 41, 42, 56, 57, 58, 47, 59, 60, 49, 136, 137, 138, 139, 55, 23, 24, 25, 19, 26, 27, 28, 29, 179, 180, 181, 182, 118, 183, 184, 185, 186, 187, 188, 189, 111, 108, 112, 190, 191, 192, 107, 109, 316, 317, 318, 319, 320, 321, 322, 323, 324, 325, 333, 334, 335, 336, 337, 338, 339, 340, 341, 342, 343, 344, 345, 346, 347, 348, 349, 350, 351, 352, 372, 373, 357, 358, 359, 360, 361, 353, 354, 355, 356] (by decide +kernel) (by decide +kernel)
set_option maxRecDepth 20000 in
theorem gX8_oneTick_X8_letCoresRun : GoodIn wsX8_oneTick (wsV RX8 329 RX8 yX8_letCoresRun wsX8_letCoresRun) := goodIn_app (goodIn_of _ (by decide +kernel)) ggX8_oneTick_X8_letCoresRun
set_option maxRecDepth 20000 in
theorem ggX8_oneTick_X8_heatCores : GoodIn wsX8_oneTick wsX8_heatCores := goodIn_r _ [196, 5, 21, 4, 197, 198, 199, 200, 47, 201, 49, 60, 202, 203, 204, 205, 206, 111, 108, 112, 207, 107, 109, 208, 209, 210, 211, 212, 213, 214, 33, 215, 105, 176, 177, 35, 216, 217, 218, 219, 84, 41, 42, 220, 221, 222, 223, 224, 225, 226, 227, 228, 229, 230, 231, 232, 233, 234, 235, 236, 237, 238, 239, 240, 241, 242, 243, 244, 245, 246, 247, 316, 317, 318, 319, 320, 321, 322, 323, 324, 325, 333, 334, 335, 336, 337, 338, 339, 340, 341, 342, 343, 344, 345, 346, 347, 348, 349, 350, 351, 352, 360, 361, 372, 373, 357, 358, 359] (by decide +kernel) (by decide +kernel)
set_option maxRecDepth 20000 in
theorem gX8_oneTick_X8_heatCores : GoodIn wsX8_oneTick (wsV RX8 332 RX8 yX8_heatCores wsX8_heatCores) := goodIn_app (goodIn_of _ (by decide +kernel)) ggX8_oneTick_X8_heatCores
set_option maxRecDepth 20000 in
theorem ggX8_oneTick_X8_flowToCase : GoodIn wsX8_oneTick wsX8_flowToCase := goodIn_r _ [251, 21, 197, 252, 3, 253, 4, 254, 255, 256, 47, 257, 49, 202, 203, 204, 205, 60, 206, 111, 108, 112, 207, 107, 109, 258, 259, 260, 261, 208, 209, 210, 211, 262, 263, 264, 265, 225, 266, 267, 268, 237, 269, 239, 240, 241, 270, 246, 231, 232, 233, 234, 235, 236, 238, 242, 243, 244, 245, 226, 227, 228, 229, 316, 317, 318, 319, 320, 321, 322, 323, 324, 325, 333, 334, 335, 336, 337, 338, 339, 340, 341, 342, 343, 344, 345, 346, 347, 348, 349, 350, 351, 352, 357, 358, 359, 374, 375, 376, 377, 378, 360, 361] (by decide +kernel) (by decide +kernel)
set_option maxRecDepth 20000 in
theorem gX8_oneTick_X8_flowToCase : GoodIn wsX8_oneTick (wsV RX8 335 RX8 yX8_flowToCase wsX8_flowToCase) := goodIn_app (goodIn_of _ (by decide +kernel)) ggX8_oneTick_X8_flowToCase
set_option maxRecDepth 20000 in
theorem ggX8_oneTick_X2_giveToAir : GoodIn wsX8_oneTick wsX2_giveToAir := goodIn_r _ [275, 276, 277, 278, 279, 280, 281, 259, 260, 47, 261, 49, 60, 202, 203, 204, 205, 206, 111, 108, 112, 207, 107, 109, 208, 209, 210, 211, 282, 263, 264, 265, 225, 283, 222, 223, 224, 226, 227, 228, 229, 284, 231, 232, 233, 285, 267, 268, 237, 269, 239, 240, 241, 270, 246, 286, 45, 46, 48, 374, 375, 376, 377, 378, 357, 358, 359, 360, 361] (by decide +kernel) (by decide +kernel)
set_option maxRecDepth 20000 in
theorem gX8_oneTick_X2_giveToAir : GoodIn wsX8_oneTick (wsV RX8 338 RX2 yX2_giveToAir wsX2_giveToAir) := goodIn_app (goodIn_of _ (by decide +kernel)) ggX8_oneTick_X2_giveToAir
set_option maxRecDepth 20000 in
theorem ggX8_oneTick_X2_stepFan : GoodIn wsX8_oneTick wsX2_stepFan := goodIn_r _ [290, 291, 276, 277, 279, 292, 57, 58, 47, 59, 60, 49, 374, 375, 376, 377, 378, 357, 358, 359, 360, 361] (by decide +kernel) (by decide +kernel)
set_option maxRecDepth 20000 in
theorem gX8_oneTick_X2_stepFan : GoodIn wsX8_oneTick (wsV RX8 341 RX2 yX2_stepFan wsX2_stepFan) := goodIn_app (goodIn_of _ (by decide +kernel)) ggX8_oneTick_X2_stepFan
set_option maxRecDepth 20000 in
theorem ggX8_oneTick_X2_runFan : GoodIn wsX8_oneTick wsX2_runFan := goodIn_r _ [296, 279, 280, 374, 375, 376, 377, 378] (by decide +kernel) (by decide +kernel)
set_option maxRecDepth 20000 in
theorem gX8_oneTick_X2_runFan : GoodIn wsX8_oneTick (wsV RX8 344 RX2 yX2_runFan wsX2_runFan) := goodIn_app (goodIn_of _ (by decide +kernel)) ggX8_oneTick_X2_runFan
set_option maxRecDepth 20000 in
theorem ggX8_oneTick_X0_become : GoodIn wsX8_oneTick wsX0_become := goodIn_r _ [201, 49, 60, 202, 203, 204, 47, 205, 206, 111, 108, 112, 207, 107, 109, 208, 209, 210, 211, 360, 361] (by decide +kernel) (by decide +kernel)
set_option maxRecDepth 20000 in
theorem gX8_oneTick_X0_become : GoodIn wsX8_oneTick (wsV RX8 212 RX0 yX0_become wsX0_become) := goodIn_app (goodIn_of _ (by decide +kernel)) ggX8_oneTick_X0_become
set_option maxRecDepth 20000 in
theorem ggX8_oneTick_X0_add : GoodIn wsX8_oneTick wsX0_add := goodIn_r _ [245, 49, 225, 60, 202, 203, 204, 47, 205, 206, 111, 108, 112, 207, 107, 109, 226, 227, 228, 229, 208, 209, 210, 211, 360, 361] (by decide +kernel) (by decide +kernel)
set_option maxRecDepth 20000 in
theorem gX8_oneTick_X0_add : GoodIn wsX8_oneTick (wsV RX8 294 RX0 yX0_add wsX0_add) := goodIn_app (goodIn_of _ (by decide +kernel)) ggX8_oneTick_X0_add
set_option maxRecDepth 20000 in
theorem ggX8_oneTick_X6_give : GoodIn wsX8_oneTick wsX6_give := goodIn_r _ [301, 302, 303, 107, 108, 109, 304, 305, 306, 307, 308, 309, 310, 311, 312, 313, 111, 112, 314, 57, 58, 47, 59, 60, 49, 315, 45, 46, 48, 362, 363, 364, 365, 366, 367, 368, 369, 370, 371, 360, 361] (by decide +kernel) (by decide +kernel)
set_option maxRecDepth 20000 in
theorem gX8_oneTick_X6_give : GoodIn wsX8_oneTick (wsV RX8 347 RX6 yX6_give wsX6_give) := goodIn_app (goodIn_of _ (by decide +kernel)) ggX8_oneTick_X6_give
theorem dX8_oneTick_0 : decode cX8_oneTick 0 = .ok (.aload_n 0, 1) := by decide +kernel
theorem dX8_oneTick_1 : decode cX8_oneTick 1 = .ok (.dup, 1) := by decide +kernel
theorem dX8_oneTick_2 : decode cX8_oneTick 2 = .ok (.getfield 58, 3) := by decide +kernel
theorem dX8_oneTick_5 : decode cX8_oneTick 5 = .ok (.iconst 1, 1) := by decide +kernel
theorem dX8_oneTick_6 : decode cX8_oneTick 6 = .ok (.iadd, 1) := by decide +kernel
theorem dX8_oneTick_7 : decode cX8_oneTick 7 = .ok (.putfield 58, 3) := by decide +kernel
theorem dX8_oneTick_10 : decode cX8_oneTick 10 = .ok (.aload_n 0, 1) := by decide +kernel
theorem dX8_oneTick_11 : decode cX8_oneTick 11 = .ok (.getfield 44, 3) := by decide +kernel
theorem dX8_oneTick_14 : decode cX8_oneTick 14 = .ok (.invokevirtual 314, 3) := by decide +kernel
theorem dX8_oneTick_17 : decode cX8_oneTick 17 = .ok (.aload_n 0, 1) := by decide +kernel
theorem dX8_oneTick_18 : decode cX8_oneTick 18 = .ok (.invokevirtual 317, 3) := by decide +kernel
theorem dX8_oneTick_21 : decode cX8_oneTick 21 = .ok (.aload_n 0, 1) := by decide +kernel
theorem dX8_oneTick_22 : decode cX8_oneTick 22 = .ok (.invokevirtual 320, 3) := by decide +kernel
theorem dX8_oneTick_25 : decode cX8_oneTick 25 = .ok (.aload_n 0, 1) := by decide +kernel
theorem dX8_oneTick_26 : decode cX8_oneTick 26 = .ok (.invokevirtual 323, 3) := by decide +kernel
theorem dX8_oneTick_29 : decode cX8_oneTick 29 = .ok (.aload_n 0, 1) := by decide +kernel
theorem dX8_oneTick_30 : decode cX8_oneTick 30 = .ok (.invokevirtual 326, 3) := by decide +kernel
theorem dX8_oneTick_33 : decode cX8_oneTick 33 = .ok (.aload_n 0, 1) := by decide +kernel
theorem dX8_oneTick_34 : decode cX8_oneTick 34 = .ok (.invokevirtual 329, 3) := by decide +kernel
theorem dX8_oneTick_37 : decode cX8_oneTick 37 = .ok (.aload_n 0, 1) := by decide +kernel
theorem dX8_oneTick_38 : decode cX8_oneTick 38 = .ok (.invokevirtual 332, 3) := by decide +kernel
theorem dX8_oneTick_41 : decode cX8_oneTick 41 = .ok (.aload_n 0, 1) := by decide +kernel
theorem dX8_oneTick_42 : decode cX8_oneTick 42 = .ok (.invokevirtual 335, 3) := by decide +kernel
theorem dX8_oneTick_45 : decode cX8_oneTick 45 = .ok (.aload_n 0, 1) := by decide +kernel
theorem dX8_oneTick_46 : decode cX8_oneTick 46 = .ok (.getfield 30, 3) := by decide +kernel
theorem dX8_oneTick_49 : decode cX8_oneTick 49 = .ok (.aload_n 0, 1) := by decide +kernel
theorem dX8_oneTick_50 : decode cX8_oneTick 50 = .ok (.getfield 55, 3) := by decide +kernel
theorem dX8_oneTick_53 : decode cX8_oneTick 53 = .ok (.invokevirtual 338, 3) := by decide +kernel
theorem dX8_oneTick_56 : decode cX8_oneTick 56 = .ok (.aload_n 0, 1) := by decide +kernel
theorem dX8_oneTick_57 : decode cX8_oneTick 57 = .ok (.getfield 30, 3) := by decide +kernel
theorem dX8_oneTick_60 : decode cX8_oneTick 60 = .ok (.invokevirtual 341, 3) := by decide +kernel
theorem dX8_oneTick_63 : decode cX8_oneTick 63 = .ok (.aload_n 0, 1) := by decide +kernel
theorem dX8_oneTick_64 : decode cX8_oneTick 64 = .ok (.getfield 55, 3) := by decide +kernel
theorem dX8_oneTick_67 : decode cX8_oneTick 67 = .ok (.aload_n 0, 1) := by decide +kernel
theorem dX8_oneTick_68 : decode cX8_oneTick 68 = .ok (.getfield 30, 3) := by decide +kernel
theorem dX8_oneTick_71 : decode cX8_oneTick 71 = .ok (.invokevirtual 344, 3) := by decide +kernel
theorem dX8_oneTick_74 : decode cX8_oneTick 74 = .ok (.invokevirtual 212, 3) := by decide +kernel
theorem dX8_oneTick_77 : decode cX8_oneTick 77 = .ok (.aload_n 0, 1) := by decide +kernel
theorem dX8_oneTick_78 : decode cX8_oneTick 78 = .ok (.getfield 51, 3) := by decide +kernel
theorem dX8_oneTick_81 : decode cX8_oneTick 81 = .ok (.aload_n 0, 1) := by decide +kernel
theorem dX8_oneTick_82 : decode cX8_oneTick 82 = .ok (.getfield 55, 3) := by decide +kernel
theorem dX8_oneTick_85 : decode cX8_oneTick 85 = .ok (.invokevirtual 294, 3) := by decide +kernel
theorem dX8_oneTick_88 : decode cX8_oneTick 88 = .ok (.aload_n 0, 1) := by decide +kernel
theorem dX8_oneTick_89 : decode cX8_oneTick 89 = .ok (.getfield 37, 3) := by decide +kernel
theorem dX8_oneTick_92 : decode cX8_oneTick 92 = .ok (.aload_n 0, 1) := by decide +kernel
theorem dX8_oneTick_93 : decode cX8_oneTick 93 = .ok (.getfield 51, 3) := by decide +kernel
theorem dX8_oneTick_96 : decode cX8_oneTick 96 = .ok (.invokevirtual 347, 3) := by decide +kernel
theorem dX8_oneTick_99 : decode cX8_oneTick 99 = .ok (.return_, 1) := by decide +kernel
set_option maxRecDepth 20000 in
theorem ggX8_beginCores_X8_runningOn : GoodIn wsX8_beginCores wsX8_runningOn := goodIn_r _ [8, 9, 10, 11, 43, 44, 45, 46, 47, 48, 49, 50, 51, 52, 73, 74, 75, 76] (by decide +kernel) (by decide +kernel)
set_option maxRecDepth 20000 in
theorem gX8_beginCores_X8_runningOn : GoodIn wsX8_beginCores (wsV RX8 151 RX8 yX8_runningOn wsX8_runningOn) := goodIn_app (goodIn_of _ (by decide +kernel)) ggX8_beginCores_X8_runningOn
set_option maxRecDepth 20000 in
theorem ggX8_beginCores_X3_noteBusy : GoodIn wsX8_beginCores wsX3_noteBusy := goodIn_r _ [16, 17, 18, 53, 54, 55, 56, 57, 58, 59, 60, 61, 62, 63, 64, 65, 66, 67, 68, 69, 70, 71, 72] (by decide +kernel) (by decide +kernel)
set_option maxRecDepth 20000 in
theorem gX8_beginCores_X3_noteBusy : GoodIn wsX8_beginCores (wsV RX8 350 RX3 yX3_noteBusy wsX3_noteBusy) := goodIn_app (goodIn_of _ (by decide +kernel)) ggX8_beginCores_X3_noteBusy
set_option maxRecDepth 20000 in
theorem ggX8_beginCores_X3_readSensor : GoodIn wsX8_beginCores wsX3_readSensor := goodIn_r _ [22, 23, 24, 25, 26, 27, 28, 29, 30, 31, 53, 54, 55, 56, 57, 58, 59, 60, 61, 62, 63, 64, 65, 66, 67, 68, 69, 70, 71, 72, 77, 78, 79, 80, 81] (by decide +kernel) (by decide +kernel)
set_option maxRecDepth 20000 in
theorem gX8_beginCores_X3_readSensor : GoodIn wsX8_beginCores (wsV RX8 354 RX3 yX3_readSensor wsX3_readSensor) := goodIn_app (goodIn_of _ (by decide +kernel)) ggX8_beginCores_X3_readSensor
set_option maxRecDepth 20000 in
theorem ggX8_beginCores_X3_tripAndWear : GoodIn wsX8_beginCores wsX3_tripAndWear := goodIn_r _ [35, 23, 24, 36, 37, 38, 39, 40, 29, 41, 42, 31, 53, 54, 55, 56, 57, 58, 59, 60, 61, 62, 63, 64, 65, 66, 67, 68, 69, 70, 71, 72, 77, 78, 79, 80, 81] (by decide +kernel) (by decide +kernel)
set_option maxRecDepth 20000 in
theorem gX8_beginCores_X3_tripAndWear : GoodIn wsX8_beginCores (wsV RX8 357 RX3 yX3_tripAndWear wsX3_tripAndWear) := goodIn_app (goodIn_of _ (by decide +kernel)) ggX8_beginCores_X3_tripAndWear
theorem dX8_beginCores_0 : decode cX8_beginCores 0 = .ok (.aload_n 0, 1) := by decide +kernel
theorem dX8_beginCores_1 : decode cX8_beginCores 1 = .ok (.getfield 58, 3) := by decide +kernel
theorem dX8_beginCores_4 : decode cX8_beginCores 4 = .ok (.iconst 4, 1) := by decide +kernel
theorem dX8_beginCores_5 : decode cX8_beginCores 5 = .ok (.irem, 1) := by decide +kernel
theorem dX8_beginCores_6 : decode cX8_beginCores 6 = .ok (.ifCond .ne 7, 3) := by decide +kernel
theorem dX8_beginCores_9 : decode cX8_beginCores 9 = .ok (.iconst 1, 1) := by decide +kernel
theorem dX8_beginCores_10 : decode cX8_beginCores 10 = .ok (.goto 4, 3) := by decide +kernel
theorem dX8_beginCores_13 : decode cX8_beginCores 13 = .ok (.iconst 0, 1) := by decide +kernel
theorem dX8_beginCores_14 : decode cX8_beginCores 14 = .ok (.istore_n 1, 1) := by decide +kernel
theorem dX8_beginCores_15 : decode cX8_beginCores 15 = .ok (.aload_n 0, 1) := by decide +kernel
theorem dX8_beginCores_16 : decode cX8_beginCores 16 = .ok (.getfield 17, 3) := by decide +kernel
theorem dX8_beginCores_19 : decode cX8_beginCores 19 = .ok (.astore_n 2, 1) := by decide +kernel
theorem dX8_beginCores_20 : decode cX8_beginCores 20 = .ok (.aload_n 2, 1) := by decide +kernel
theorem dX8_beginCores_21 : decode cX8_beginCores 21 = .ok (.arraylength, 1) := by decide +kernel
theorem dX8_beginCores_22 : decode cX8_beginCores 22 = .ok (.istore_n 3, 1) := by decide +kernel
theorem dX8_beginCores_23 : decode cX8_beginCores 23 = .ok (.iconst 0, 1) := by decide +kernel
theorem dX8_beginCores_24 : decode cX8_beginCores 24 = .ok (.istore 4, 2) := by decide +kernel
theorem dX8_beginCores_26 : decode cX8_beginCores 26 = .ok (.iload 4, 2) := by decide +kernel
theorem dX8_beginCores_28 : decode cX8_beginCores 28 = .ok (.iload_n 3, 1) := by decide +kernel
theorem dX8_beginCores_29 : decode cX8_beginCores 29 = .ok (.if_icmp .ge 56, 3) := by decide +kernel
theorem dX8_beginCores_32 : decode cX8_beginCores 32 = .ok (.aload_n 2, 1) := by decide +kernel
theorem dX8_beginCores_33 : decode cX8_beginCores 33 = .ok (.iload 4, 2) := by decide +kernel
theorem dX8_beginCores_35 : decode cX8_beginCores 35 = .ok (.aaload, 1) := by decide +kernel
theorem dX8_beginCores_36 : decode cX8_beginCores 36 = .ok (.astore 5, 2) := by decide +kernel
theorem dX8_beginCores_38 : decode cX8_beginCores 38 = .ok (.aload 5, 2) := by decide +kernel
theorem dX8_beginCores_40 : decode cX8_beginCores 40 = .ok (.ifnull 39, 3) := by decide +kernel
theorem dX8_beginCores_43 : decode cX8_beginCores 43 = .ok (.aload 5, 2) := by decide +kernel
theorem dX8_beginCores_45 : decode cX8_beginCores 45 = .ok (.aload_n 0, 1) := by decide +kernel
theorem dX8_beginCores_46 : decode cX8_beginCores 46 = .ok (.aload 5, 2) := by decide +kernel
theorem dX8_beginCores_48 : decode cX8_beginCores 48 = .ok (.getfield 289, 3) := by decide +kernel
theorem dX8_beginCores_51 : decode cX8_beginCores 51 = .ok (.invokevirtual 151, 3) := by decide +kernel
theorem dX8_beginCores_54 : decode cX8_beginCores 54 = .ok (.ifnull 7, 3) := by decide +kernel
theorem dX8_beginCores_57 : decode cX8_beginCores 57 = .ok (.iconst 1, 1) := by decide +kernel
theorem dX8_beginCores_58 : decode cX8_beginCores 58 = .ok (.goto 4, 3) := by decide +kernel
theorem dX8_beginCores_61 : decode cX8_beginCores 61 = .ok (.iconst 0, 1) := by decide +kernel
theorem dX8_beginCores_62 : decode cX8_beginCores 62 = .ok (.invokevirtual 350, 3) := by decide +kernel
theorem dX8_beginCores_65 : decode cX8_beginCores 65 = .ok (.iload_n 1, 1) := by decide +kernel
theorem dX8_beginCores_66 : decode cX8_beginCores 66 = .ok (.ifCond .eq 8, 3) := by decide +kernel
theorem dX8_beginCores_69 : decode cX8_beginCores 69 = .ok (.aload 5, 2) := by decide +kernel
theorem dX8_beginCores_71 : decode cX8_beginCores 71 = .ok (.invokevirtual 354, 3) := by decide +kernel
theorem dX8_beginCores_74 : decode cX8_beginCores 74 = .ok (.aload 5, 2) := by decide +kernel
theorem dX8_beginCores_76 : decode cX8_beginCores 76 = .ok (.invokevirtual 357, 3) := by decide +kernel
theorem dX8_beginCores_79 : decode cX8_beginCores 79 = .ok (.iinc 4 1, 3) := by decide +kernel
theorem dX8_beginCores_82 : decode cX8_beginCores 82 = .ok (.goto (-56), 3) := by decide +kernel
theorem dX8_beginCores_85 : decode cX8_beginCores 85 = .ok (.return_, 1) := by decide +kernel
set_option maxRecDepth 20000 in
theorem ggX8_sleepAndWake_X8_goOnWaking : GoodIn wsX8_sleepAndWake wsX8_goOnWaking := goodIn_r _ [9, 10, 2, 11, 12, 13, 14, 15, 8, 16, 17, 18, 19, 43, 44, 45, 46, 47, 48, 49, 50, 51, 52, 53, 54, 55, 56, 57, 58, 59, 60, 61, 62, 33, 34, 35, 36, 37, 38, 39, 40, 41, 42, 63, 64, 65, 66] (by decide +kernel) (by decide +kernel)
set_option maxRecDepth 20000 in
theorem gX8_sleepAndWake_X8_goOnWaking : GoodIn wsX8_sleepAndWake (wsV RX8 360 RX8 yX8_goOnWaking wsX8_goOnWaking) := goodIn_app (goodIn_of _ (by decide +kernel)) ggX8_sleepAndWake_X8_goOnWaking
set_option maxRecDepth 20000 in
theorem ggX8_sleepAndWake_X3_countIdle : GoodIn wsX8_sleepAndWake wsX3_countIdle := goodIn_r _ [24, 25, 26, 43, 44, 45, 46, 47, 48, 49, 50, 51, 52, 53, 54, 55, 56, 57, 58, 59, 60, 61, 62] (by decide +kernel) (by decide +kernel)
set_option maxRecDepth 20000 in
theorem gX8_sleepAndWake_X3_countIdle : GoodIn wsX8_sleepAndWake (wsV RX8 367 RX3 yX3_countIdle wsX3_countIdle) := goodIn_app (goodIn_of _ (by decide +kernel)) ggX8_sleepAndWake_X3_countIdle
set_option maxRecDepth 20000 in
theorem ggX8_sleepAndWake_X3_beginToWake : GoodIn wsX8_sleepAndWake wsX3_beginToWake := goodIn_r _ [30, 26, 31, 32, 43, 44, 45, 46, 47, 48, 49, 50, 51, 52, 53, 54, 55, 56, 57, 58, 59, 60, 61, 62] (by decide +kernel) (by decide +kernel)
set_option maxRecDepth 20000 in
theorem gX8_sleepAndWake_X3_beginToWake : GoodIn wsX8_sleepAndWake (wsV RX8 373 RX3 yX3_beginToWake wsX3_beginToWake) := goodIn_app (goodIn_of _ (by decide +kernel)) ggX8_sleepAndWake_X3_beginToWake
theorem dX8_sleepAndWake_0 : decode cX8_sleepAndWake 0 = .ok (.iconst 0, 1) := by decide +kernel
theorem dX8_sleepAndWake_1 : decode cX8_sleepAndWake 1 = .ok (.istore_n 1, 1) := by decide +kernel
theorem dX8_sleepAndWake_2 : decode cX8_sleepAndWake 2 = .ok (.aload_n 0, 1) := by decide +kernel
theorem dX8_sleepAndWake_3 : decode cX8_sleepAndWake 3 = .ok (.getfield 17, 3) := by decide +kernel
theorem dX8_sleepAndWake_6 : decode cX8_sleepAndWake 6 = .ok (.astore_n 2, 1) := by decide +kernel
theorem dX8_sleepAndWake_7 : decode cX8_sleepAndWake 7 = .ok (.aload_n 2, 1) := by decide +kernel
theorem dX8_sleepAndWake_8 : decode cX8_sleepAndWake 8 = .ok (.arraylength, 1) := by decide +kernel
theorem dX8_sleepAndWake_9 : decode cX8_sleepAndWake 9 = .ok (.istore_n 3, 1) := by decide +kernel
theorem dX8_sleepAndWake_10 : decode cX8_sleepAndWake 10 = .ok (.iconst 0, 1) := by decide +kernel
theorem dX8_sleepAndWake_11 : decode cX8_sleepAndWake 11 = .ok (.istore 4, 2) := by decide +kernel
theorem dX8_sleepAndWake_13 : decode cX8_sleepAndWake 13 = .ok (.iload 4, 2) := by decide +kernel
theorem dX8_sleepAndWake_15 : decode cX8_sleepAndWake 15 = .ok (.iload_n 3, 1) := by decide +kernel
theorem dX8_sleepAndWake_16 : decode cX8_sleepAndWake 16 = .ok (.if_icmp .ge 87, 3) := by decide +kernel
theorem dX8_sleepAndWake_19 : decode cX8_sleepAndWake 19 = .ok (.aload_n 2, 1) := by decide +kernel
theorem dX8_sleepAndWake_20 : decode cX8_sleepAndWake 20 = .ok (.iload 4, 2) := by decide +kernel
theorem dX8_sleepAndWake_22 : decode cX8_sleepAndWake 22 = .ok (.aaload, 1) := by decide +kernel
theorem dX8_sleepAndWake_23 : decode cX8_sleepAndWake 23 = .ok (.astore 5, 2) := by decide +kernel
theorem dX8_sleepAndWake_25 : decode cX8_sleepAndWake 25 = .ok (.aload 5, 2) := by decide +kernel
theorem dX8_sleepAndWake_27 : decode cX8_sleepAndWake 27 = .ok (.ifnonnull 6, 3) := by decide +kernel
theorem dX8_sleepAndWake_30 : decode cX8_sleepAndWake 30 = .ok (.goto 67, 3) := by decide +kernel
theorem dX8_sleepAndWake_33 : decode cX8_sleepAndWake 33 = .ok (.aload 5, 2) := by decide +kernel
theorem dX8_sleepAndWake_35 : decode cX8_sleepAndWake 35 = .ok (.getfield 148, 3) := by decide +kernel
theorem dX8_sleepAndWake_38 : decode cX8_sleepAndWake 38 = .ok (.bipush 119, 2) := by decide +kernel
theorem dX8_sleepAndWake_40 : decode cX8_sleepAndWake 40 = .ok (.if_icmp .ne 12, 3) := by decide +kernel
theorem dX8_sleepAndWake_43 : decode cX8_sleepAndWake 43 = .ok (.aload_n 0, 1) := by decide +kernel
theorem dX8_sleepAndWake_44 : decode cX8_sleepAndWake 44 = .ok (.aload 5, 2) := by decide +kernel
theorem dX8_sleepAndWake_46 : decode cX8_sleepAndWake 46 = .ok (.invokevirtual 360, 3) := by decide +kernel
theorem dX8_sleepAndWake_49 : decode cX8_sleepAndWake 49 = .ok (.goto 48, 3) := by decide +kernel
theorem dX8_sleepAndWake_52 : decode cX8_sleepAndWake 52 = .ok (.aload 5, 2) := by decide +kernel
theorem dX8_sleepAndWake_54 : decode cX8_sleepAndWake 54 = .ok (.getfield 364, 3) := by decide +kernel
theorem dX8_sleepAndWake_57 : decode cX8_sleepAndWake 57 = .ok (.ifCond .ne 11, 3) := by decide +kernel
theorem dX8_sleepAndWake_60 : decode cX8_sleepAndWake 60 = .ok (.aload 5, 2) := by decide +kernel
theorem dX8_sleepAndWake_62 : decode cX8_sleepAndWake 62 = .ok (.invokevirtual 367, 3) := by decide +kernel
theorem dX8_sleepAndWake_65 : decode cX8_sleepAndWake 65 = .ok (.goto 32, 3) := by decide +kernel
theorem dX8_sleepAndWake_68 : decode cX8_sleepAndWake 68 = .ok (.aload 5, 2) := by decide +kernel
theorem dX8_sleepAndWake_70 : decode cX8_sleepAndWake 70 = .ok (.iconst 0, 1) := by decide +kernel
theorem dX8_sleepAndWake_71 : decode cX8_sleepAndWake 71 = .ok (.putfield 370, 3) := by decide +kernel
theorem dX8_sleepAndWake_74 : decode cX8_sleepAndWake 74 = .ok (.aload 5, 2) := by decide +kernel
theorem dX8_sleepAndWake_76 : decode cX8_sleepAndWake 76 = .ok (.getfield 148, 3) := by decide +kernel
theorem dX8_sleepAndWake_79 : decode cX8_sleepAndWake 79 = .ok (.bipush 97, 2) := by decide +kernel
theorem dX8_sleepAndWake_81 : decode cX8_sleepAndWake 81 = .ok (.if_icmp .eq 16, 3) := by decide +kernel
theorem dX8_sleepAndWake_84 : decode cX8_sleepAndWake 84 = .ok (.iload_n 1, 1) := by decide +kernel
theorem dX8_sleepAndWake_85 : decode cX8_sleepAndWake 85 = .ok (.iconst 2, 1) := by decide +kernel
theorem dX8_sleepAndWake_86 : decode cX8_sleepAndWake 86 = .ok (.if_icmp .ge 11, 3) := by decide +kernel
theorem dX8_sleepAndWake_89 : decode cX8_sleepAndWake 89 = .ok (.aload 5, 2) := by decide +kernel
theorem dX8_sleepAndWake_91 : decode cX8_sleepAndWake 91 = .ok (.invokevirtual 373, 3) := by decide +kernel
theorem dX8_sleepAndWake_94 : decode cX8_sleepAndWake 94 = .ok (.iinc 1 1, 3) := by decide +kernel
theorem dX8_sleepAndWake_97 : decode cX8_sleepAndWake 97 = .ok (.iinc 4 1, 3) := by decide +kernel
theorem dX8_sleepAndWake_100 : decode cX8_sleepAndWake 100 = .ok (.goto (-87), 3) := by decide +kernel
theorem dX8_sleepAndWake_103 : decode cX8_sleepAndWake 103 = .ok (.return_, 1) := by decide +kernel
set_option maxRecDepth 20000 in
theorem ggX8_goOnWaking_X8_chillThreadsOn : GoodIn wsX8_goOnWaking wsX8_chillThreadsOn := goodIn_r _ [9, 10, 11, 12, 33, 34, 35, 36, 37, 38, 39, 40, 41, 42, 43, 44, 45, 46] (by decide +kernel) (by decide +kernel)
set_option maxRecDepth 20000 in
theorem gX8_goOnWaking_X8_chillThreadsOn : GoodIn wsX8_goOnWaking (wsV RX8 382 RX8 yX8_chillThreadsOn wsX8_chillThreadsOn) := goodIn_app (goodIn_of _ (by decide +kernel)) ggX8_goOnWaking_X8_chillThreadsOn
theorem dX8_goOnWaking_0 : decode cX8_goOnWaking 0 = .ok (.aload_n 1, 1) := by decide +kernel
theorem dX8_goOnWaking_1 : decode cX8_goOnWaking 1 = .ok (.dup, 1) := by decide +kernel
theorem dX8_goOnWaking_2 : decode cX8_goOnWaking 2 = .ok (.getfield 376, 3) := by decide +kernel
theorem dX8_goOnWaking_5 : decode cX8_goOnWaking 5 = .ok (.iconst 1, 1) := by decide +kernel
theorem dX8_goOnWaking_6 : decode cX8_goOnWaking 6 = .ok (.isub, 1) := by decide +kernel
theorem dX8_goOnWaking_7 : decode cX8_goOnWaking 7 = .ok (.putfield 376, 3) := by decide +kernel
theorem dX8_goOnWaking_10 : decode cX8_goOnWaking 10 = .ok (.aload_n 1, 1) := by decide +kernel
theorem dX8_goOnWaking_11 : decode cX8_goOnWaking 11 = .ok (.getfield 376, 3) := by decide +kernel
theorem dX8_goOnWaking_14 : decode cX8_goOnWaking 14 = .ok (.ifCond .le 4, 3) := by decide +kernel
theorem dX8_goOnWaking_17 : decode cX8_goOnWaking 17 = .ok (.return_, 1) := by decide +kernel
theorem dX8_goOnWaking_18 : decode cX8_goOnWaking 18 = .ok (.aload_n 1, 1) := by decide +kernel
theorem dX8_goOnWaking_19 : decode cX8_goOnWaking 19 = .ok (.bipush 97, 2) := by decide +kernel
theorem dX8_goOnWaking_21 : decode cX8_goOnWaking 21 = .ok (.putfield 148, 3) := by decide +kernel
theorem dX8_goOnWaking_24 : decode cX8_goOnWaking 24 = .ok (.aload_n 1, 1) := by decide +kernel
theorem dX8_goOnWaking_25 : decode cX8_goOnWaking 25 = .ok (.getfield 379, 3) := by decide +kernel
theorem dX8_goOnWaking_28 : decode cX8_goOnWaking 28 = .ok (.ifCond .eq 11, 3) := by decide +kernel
theorem dX8_goOnWaking_31 : decode cX8_goOnWaking 31 = .ok (.aload_n 0, 1) := by decide +kernel
theorem dX8_goOnWaking_32 : decode cX8_goOnWaking 32 = .ok (.aload_n 1, 1) := by decide +kernel
theorem dX8_goOnWaking_33 : decode cX8_goOnWaking 33 = .ok (.getfield 289, 3) := by decide +kernel
theorem dX8_goOnWaking_36 : decode cX8_goOnWaking 36 = .ok (.invokevirtual 382, 3) := by decide +kernel
theorem dX8_goOnWaking_39 : decode cX8_goOnWaking 39 = .ok (.return_, 1) := by decide +kernel
theorem dX8_chillThreadsOn_0 : decode cX8_chillThreadsOn 0 = .ok (.aload_n 0, 1) := by decide +kernel
theorem dX8_chillThreadsOn_1 : decode cX8_chillThreadsOn 1 = .ok (.getfield 23, 3) := by decide +kernel
theorem dX8_chillThreadsOn_4 : decode cX8_chillThreadsOn 4 = .ok (.astore_n 2, 1) := by decide +kernel
theorem dX8_chillThreadsOn_5 : decode cX8_chillThreadsOn 5 = .ok (.aload_n 2, 1) := by decide +kernel
theorem dX8_chillThreadsOn_6 : decode cX8_chillThreadsOn 6 = .ok (.arraylength, 1) := by decide +kernel
theorem dX8_chillThreadsOn_7 : decode cX8_chillThreadsOn 7 = .ok (.istore_n 3, 1) := by decide +kernel
theorem dX8_chillThreadsOn_8 : decode cX8_chillThreadsOn 8 = .ok (.iconst 0, 1) := by decide +kernel
theorem dX8_chillThreadsOn_9 : decode cX8_chillThreadsOn 9 = .ok (.istore 4, 2) := by decide +kernel
theorem dX8_chillThreadsOn_11 : decode cX8_chillThreadsOn 11 = .ok (.iload 4, 2) := by decide +kernel
theorem dX8_chillThreadsOn_13 : decode cX8_chillThreadsOn 13 = .ok (.iload_n 3, 1) := by decide +kernel
theorem dX8_chillThreadsOn_14 : decode cX8_chillThreadsOn 14 = .ok (.if_icmp .ge 35, 3) := by decide +kernel
theorem dX8_chillThreadsOn_17 : decode cX8_chillThreadsOn 17 = .ok (.aload_n 2, 1) := by decide +kernel
theorem dX8_chillThreadsOn_18 : decode cX8_chillThreadsOn 18 = .ok (.iload 4, 2) := by decide +kernel
theorem dX8_chillThreadsOn_20 : decode cX8_chillThreadsOn 20 = .ok (.aaload, 1) := by decide +kernel
theorem dX8_chillThreadsOn_21 : decode cX8_chillThreadsOn 21 = .ok (.astore 5, 2) := by decide +kernel
theorem dX8_chillThreadsOn_23 : decode cX8_chillThreadsOn 23 = .ok (.aload 5, 2) := by decide +kernel
theorem dX8_chillThreadsOn_25 : decode cX8_chillThreadsOn 25 = .ok (.ifnull 18, 3) := by decide +kernel
theorem dX8_chillThreadsOn_28 : decode cX8_chillThreadsOn 28 = .ok (.aload 5, 2) := by decide +kernel
theorem dX8_chillThreadsOn_30 : decode cX8_chillThreadsOn 30 = .ok (.getfield 112, 3) := by decide +kernel
theorem dX8_chillThreadsOn_33 : decode cX8_chillThreadsOn 33 = .ok (.iload_n 1, 1) := by decide +kernel
theorem dX8_chillThreadsOn_34 : decode cX8_chillThreadsOn 34 = .ok (.if_icmp .ne 9, 3) := by decide +kernel
theorem dX8_chillThreadsOn_37 : decode cX8_chillThreadsOn 37 = .ok (.aload 5, 2) := by decide +kernel
theorem dX8_chillThreadsOn_39 : decode cX8_chillThreadsOn 39 = .ok (.iconst 5, 1) := by decide +kernel
theorem dX8_chillThreadsOn_40 : decode cX8_chillThreadsOn 40 = .ok (.putfield 120, 3) := by decide +kernel
theorem dX8_chillThreadsOn_43 : decode cX8_chillThreadsOn 43 = .ok (.iinc 4 1, 3) := by decide +kernel
theorem dX8_chillThreadsOn_46 : decode cX8_chillThreadsOn 46 = .ok (.goto (-35), 3) := by decide +kernel
theorem dX8_chillThreadsOn_49 : decode cX8_chillThreadsOn 49 = .ok (.return_, 1) := by decide +kernel
set_option maxRecDepth 20000 in
theorem ggX8_wishAndClamp_X8_threadsWithWorkOn : GoodIn wsX8_wishAndClamp wsX8_threadsWithWorkOn := goodIn_r _ [7, 8, 9, 10, 64, 65, 66, 67, 68, 69, 70, 71, 72, 73, 94, 95, 96, 97] (by decide +kernel) (by decide +kernel)
set_option maxRecDepth 20000 in
theorem gX8_wishAndClamp_X8_threadsWithWorkOn : GoodIn wsX8_wishAndClamp (wsV RX8 385 RX8 yX8_threadsWithWorkOn wsX8_threadsWithWorkOn) := goodIn_app (goodIn_of _ (by decide +kernel)) ggX8_wishAndClamp_X8_threadsWithWorkOn
set_option maxRecDepth 20000 in
theorem ggX8_wishAndClamp_X3_wish : GoodIn wsX8_wishAndClamp wsX3_wish := goodIn_r _ [15, 16, 17, 18, 19, 20, 21, 22, 23, 24, 25, 26, 27, 28, 29, 30, 14, 31, 32, 74, 75, 76, 77, 78, 79, 80, 81, 82, 83, 84, 85, 86, 87, 88, 89, 90, 91, 92, 93] (by decide +kernel) (by decide +kernel)
set_option maxRecDepth 20000 in
theorem gX8_wishAndClamp_X3_wish : GoodIn wsX8_wishAndClamp (wsV RX8 388 RX3 yX3_wish wsX3_wish) := goodIn_app (goodIn_of _ (by decide +kernel)) ggX8_wishAndClamp_X3_wish
set_option maxRecDepth 20000 in
theorem ggX8_wishAndClamp_X8_clampOne : GoodIn wsX8_wishAndClamp wsX8_clampOne := goodIn_r _ [36, 37, 38, 39, 40, 41, 42, 43, 44, 45, 46, 47, 48, 49, 50, 51, 14, 52, 53, 54, 55, 56, 57, 58, 59, 60, 61, 62, 63, 74, 75, 76, 77, 78, 79, 80, 81, 82, 83, 84, 85, 86, 87, 88, 89, 90, 91, 92, 93, 64, 65, 66, 67, 68, 69, 70, 71, 72, 73, 98, 99, 100, 101, 102, 103, 104, 105, 106, 107, 108, 109, 110, 111, 112, 113, 114] (by decide +kernel) (by decide +kernel)
set_option maxRecDepth 20000 in
theorem gX8_wishAndClamp_X8_clampOne : GoodIn wsX8_wishAndClamp (wsV RX8 391 RX8 yX8_clampOne wsX8_clampOne) := goodIn_app (goodIn_of _ (by decide +kernel)) ggX8_wishAndClamp_X8_clampOne
theorem dX8_wishAndClamp_0 : decode cX8_wishAndClamp 0 = .ok (.aload_n 0, 1) := by decide +kernel
theorem dX8_wishAndClamp_1 : decode cX8_wishAndClamp 1 = .ok (.getfield 17, 3) := by decide +kernel
theorem dX8_wishAndClamp_4 : decode cX8_wishAndClamp 4 = .ok (.astore_n 1, 1) := by decide +kernel
theorem dX8_wishAndClamp_5 : decode cX8_wishAndClamp 5 = .ok (.aload_n 1, 1) := by decide +kernel
theorem dX8_wishAndClamp_6 : decode cX8_wishAndClamp 6 = .ok (.arraylength, 1) := by decide +kernel
theorem dX8_wishAndClamp_7 : decode cX8_wishAndClamp 7 = .ok (.istore_n 2, 1) := by decide +kernel
theorem dX8_wishAndClamp_8 : decode cX8_wishAndClamp 8 = .ok (.iconst 0, 1) := by decide +kernel
theorem dX8_wishAndClamp_9 : decode cX8_wishAndClamp 9 = .ok (.istore_n 3, 1) := by decide +kernel
theorem dX8_wishAndClamp_10 : decode cX8_wishAndClamp 10 = .ok (.iload_n 3, 1) := by decide +kernel
theorem dX8_wishAndClamp_11 : decode cX8_wishAndClamp 11 = .ok (.iload_n 2, 1) := by decide +kernel
theorem dX8_wishAndClamp_12 : decode cX8_wishAndClamp 12 = .ok (.if_icmp .ge 39, 3) := by decide +kernel
theorem dX8_wishAndClamp_15 : decode cX8_wishAndClamp 15 = .ok (.aload_n 1, 1) := by decide +kernel
theorem dX8_wishAndClamp_16 : decode cX8_wishAndClamp 16 = .ok (.iload_n 3, 1) := by decide +kernel
theorem dX8_wishAndClamp_17 : decode cX8_wishAndClamp 17 = .ok (.aaload, 1) := by decide +kernel
theorem dX8_wishAndClamp_18 : decode cX8_wishAndClamp 18 = .ok (.astore 4, 2) := by decide +kernel
theorem dX8_wishAndClamp_20 : decode cX8_wishAndClamp 20 = .ok (.aload 4, 2) := by decide +kernel
theorem dX8_wishAndClamp_22 : decode cX8_wishAndClamp 22 = .ok (.ifnull 23, 3) := by decide +kernel
theorem dX8_wishAndClamp_25 : decode cX8_wishAndClamp 25 = .ok (.aload 4, 2) := by decide +kernel
theorem dX8_wishAndClamp_27 : decode cX8_wishAndClamp 27 = .ok (.aload_n 0, 1) := by decide +kernel
theorem dX8_wishAndClamp_28 : decode cX8_wishAndClamp 28 = .ok (.aload 4, 2) := by decide +kernel
theorem dX8_wishAndClamp_30 : decode cX8_wishAndClamp 30 = .ok (.getfield 289, 3) := by decide +kernel
theorem dX8_wishAndClamp_33 : decode cX8_wishAndClamp 33 = .ok (.invokevirtual 385, 3) := by decide +kernel
theorem dX8_wishAndClamp_36 : decode cX8_wishAndClamp 36 = .ok (.invokevirtual 388, 3) := by decide +kernel
theorem dX8_wishAndClamp_39 : decode cX8_wishAndClamp 39 = .ok (.aload_n 0, 1) := by decide +kernel
theorem dX8_wishAndClamp_40 : decode cX8_wishAndClamp 40 = .ok (.aload 4, 2) := by decide +kernel
theorem dX8_wishAndClamp_42 : decode cX8_wishAndClamp 42 = .ok (.invokevirtual 391, 3) := by decide +kernel
theorem dX8_wishAndClamp_45 : decode cX8_wishAndClamp 45 = .ok (.iinc 3 1, 3) := by decide +kernel
theorem dX8_wishAndClamp_48 : decode cX8_wishAndClamp 48 = .ok (.goto (-38), 3) := by decide +kernel
theorem dX8_wishAndClamp_51 : decode cX8_wishAndClamp 51 = .ok (.return_, 1) := by decide +kernel
set_option maxRecDepth 20000 in
theorem ggX8_clampOne_X3_isTooOld : GoodIn wsX8_clampOne wsX3_isTooOld := goodIn_r _ [17, 18, 19, 20, 16, 21, 22, 29, 30, 31, 32, 33, 34, 35, 36, 37, 38, 39, 40, 41, 42, 43, 44, 45, 46, 47, 48] (by decide +kernel) (by decide +kernel)
set_option maxRecDepth 20000 in
theorem gX8_clampOne_X3_isTooOld : GoodIn wsX8_clampOne (wsV RX8 260 RX3 yX3_isTooOld wsX3_isTooOld) := goodIn_app (goodIn_of _ (by decide +kernel)) ggX8_clampOne_X3_isTooOld
set_option maxRecDepth 20000 in
theorem ggX8_clampOne_X3_limit : GoodIn wsX8_clampOne wsX3_limit := goodIn_r _ [26, 27, 28, 29, 30, 31, 32, 33, 34, 35, 36, 37, 38, 39, 40, 41, 42, 43, 44, 45, 46, 47, 48] (by decide +kernel) (by decide +kernel)
set_option maxRecDepth 20000 in
theorem gX8_clampOne_X3_limit : GoodIn wsX8_clampOne (wsV RX8 397 RX3 yX3_limit wsX3_limit) := goodIn_app (goodIn_of _ (by decide +kernel)) ggX8_clampOne_X3_limit
theorem dX8_clampOne_0 : decode cX8_clampOne 0 = .ok (.aload_n 1, 1) := by decide +kernel
theorem dX8_clampOne_1 : decode cX8_clampOne 1 = .ok (.aload_n 1, 1) := by decide +kernel
theorem dX8_clampOne_2 : decode cX8_clampOne 2 = .ok (.getfield 142, 3) := by decide +kernel
theorem dX8_clampOne_5 : decode cX8_clampOne 5 = .ok (.putfield 394, 3) := by decide +kernel
theorem dX8_clampOne_8 : decode cX8_clampOne 8 = .ok (.aload_n 1, 1) := by decide +kernel
theorem dX8_clampOne_9 : decode cX8_clampOne 9 = .ok (.bipush 45, 2) := by decide +kernel
theorem dX8_clampOne_11 : decode cX8_clampOne 11 = .ok (.putfield 145, 3) := by decide +kernel
theorem dX8_clampOne_14 : decode cX8_clampOne 14 = .ok (.aload_n 1, 1) := by decide +kernel
theorem dX8_clampOne_15 : decode cX8_clampOne 15 = .ok (.invokevirtual 260, 3) := by decide +kernel
theorem dX8_clampOne_18 : decode cX8_clampOne 18 = .ok (.ifCond .eq 10, 3) := by decide +kernel
theorem dX8_clampOne_21 : decode cX8_clampOne 21 = .ok (.aload_n 1, 1) := by decide +kernel
theorem dX8_clampOne_22 : decode cX8_clampOne 22 = .ok (.iconst 0, 1) := by decide +kernel
theorem dX8_clampOne_23 : decode cX8_clampOne 23 = .ok (.bipush 114, 2) := by decide +kernel
theorem dX8_clampOne_25 : decode cX8_clampOne 25 = .ok (.invokevirtual 397, 3) := by decide +kernel
theorem dX8_clampOne_28 : decode cX8_clampOne 28 = .ok (.aload_n 1, 1) := by decide +kernel
theorem dX8_clampOne_29 : decode cX8_clampOne 29 = .ok (.getfield 198, 3) := by decide +kernel
theorem dX8_clampOne_32 : decode cX8_clampOne 32 = .ok (.ifCond .eq 10, 3) := by decide +kernel
theorem dX8_clampOne_35 : decode cX8_clampOne 35 = .ok (.aload_n 1, 1) := by decide +kernel
theorem dX8_clampOne_36 : decode cX8_clampOne 36 = .ok (.iconst 0, 1) := by decide +kernel
theorem dX8_clampOne_37 : decode cX8_clampOne 37 = .ok (.bipush 116, 2) := by decide +kernel
theorem dX8_clampOne_39 : decode cX8_clampOne 39 = .ok (.invokevirtual 397, 3) := by decide +kernel
theorem dX8_clampOne_42 : decode cX8_clampOne 42 = .ok (.aload_n 0, 1) := by decide +kernel
theorem dX8_clampOne_43 : decode cX8_clampOne 43 = .ok (.getfield 37, 3) := by decide +kernel
theorem dX8_clampOne_46 : decode cX8_clampOne 46 = .ok (.getfield 401, 3) := by decide +kernel
theorem dX8_clampOne_49 : decode cX8_clampOne 49 = .ok (.ifCond .eq 10, 3) := by decide +kernel
theorem dX8_clampOne_52 : decode cX8_clampOne 52 = .ok (.aload_n 1, 1) := by decide +kernel
theorem dX8_clampOne_53 : decode cX8_clampOne 53 = .ok (.iconst 0, 1) := by decide +kernel
theorem dX8_clampOne_54 : decode cX8_clampOne 54 = .ok (.bipush 111, 2) := by decide +kernel
theorem dX8_clampOne_56 : decode cX8_clampOne 56 = .ok (.invokevirtual 397, 3) := by decide +kernel
theorem dX8_clampOne_59 : decode cX8_clampOne 59 = .ok (.aload_n 1, 1) := by decide +kernel
theorem dX8_clampOne_60 : decode cX8_clampOne 60 = .ok (.getfield 186, 3) := by decide +kernel
theorem dX8_clampOne_63 : decode cX8_clampOne 63 = .ok (.ifCond .eq 10, 3) := by decide +kernel
theorem dX8_clampOne_66 : decode cX8_clampOne 66 = .ok (.aload_n 1, 1) := by decide +kernel
theorem dX8_clampOne_67 : decode cX8_clampOne 67 = .ok (.iconst 2, 1) := by decide +kernel
theorem dX8_clampOne_68 : decode cX8_clampOne 68 = .ok (.bipush 110, 2) := by decide +kernel
theorem dX8_clampOne_70 : decode cX8_clampOne 70 = .ok (.invokevirtual 397, 3) := by decide +kernel
theorem dX8_clampOne_73 : decode cX8_clampOne 73 = .ok (.aload_n 0, 1) := by decide +kernel
theorem dX8_clampOne_74 : decode cX8_clampOne 74 = .ok (.getfield 37, 3) := by decide +kernel
theorem dX8_clampOne_77 : decode cX8_clampOne 77 = .ok (.getfield 226, 3) := by decide +kernel
theorem dX8_clampOne_80 : decode cX8_clampOne 80 = .ok (.ifCond .gt 10, 3) := by decide +kernel
theorem dX8_clampOne_83 : decode cX8_clampOne 83 = .ok (.aload_n 1, 1) := by decide +kernel
theorem dX8_clampOne_84 : decode cX8_clampOne 84 = .ok (.iconst 2, 1) := by decide +kernel
theorem dX8_clampOne_85 : decode cX8_clampOne 85 = .ok (.bipush 112, 2) := by decide +kernel
theorem dX8_clampOne_87 : decode cX8_clampOne 87 = .ok (.invokevirtual 397, 3) := by decide +kernel
theorem dX8_clampOne_90 : decode cX8_clampOne 90 = .ok (.aload_n 0, 1) := by decide +kernel
theorem dX8_clampOne_91 : decode cX8_clampOne 91 = .ok (.getfield 44, 3) := by decide +kernel
theorem dX8_clampOne_94 : decode cX8_clampOne 94 = .ok (.getfield 250, 3) := by decide +kernel
theorem dX8_clampOne_97 : decode cX8_clampOne 97 = .ok (.ifCond .le 16, 3) := by decide +kernel
theorem dX8_clampOne_100 : decode cX8_clampOne 100 = .ok (.aload_n 1, 1) := by decide +kernel
theorem dX8_clampOne_101 : decode cX8_clampOne 101 = .ok (.aload_n 0, 1) := by decide +kernel
theorem dX8_clampOne_102 : decode cX8_clampOne 102 = .ok (.getfield 44, 3) := by decide +kernel
theorem dX8_clampOne_105 : decode cX8_clampOne 105 = .ok (.getfield 404, 3) := by decide +kernel
theorem dX8_clampOne_108 : decode cX8_clampOne 108 = .ok (.bipush 113, 2) := by decide +kernel
theorem dX8_clampOne_110 : decode cX8_clampOne 110 = .ok (.invokevirtual 397, 3) := by decide +kernel
theorem dX8_clampOne_113 : decode cX8_clampOne 113 = .ok (.aload_n 1, 1) := by decide +kernel
theorem dX8_clampOne_114 : decode cX8_clampOne 114 = .ok (.getfield 148, 3) := by decide +kernel
theorem dX8_clampOne_117 : decode cX8_clampOne 117 = .ok (.bipush 97, 2) := by decide +kernel
theorem dX8_clampOne_119 : decode cX8_clampOne 119 = .ok (.if_icmp .eq 8, 3) := by decide +kernel
theorem dX8_clampOne_122 : decode cX8_clampOne 122 = .ok (.aload_n 1, 1) := by decide +kernel
theorem dX8_clampOne_123 : decode cX8_clampOne 123 = .ok (.iconst 0, 1) := by decide +kernel
theorem dX8_clampOne_124 : decode cX8_clampOne 124 = .ok (.putfield 394, 3) := by decide +kernel
theorem dX8_clampOne_127 : decode cX8_clampOne 127 = .ok (.return_, 1) := by decide +kernel
set_option maxRecDepth 20000 in
theorem ggX8_driveRails_X3_voltsFor : GoodIn wsX8_driveRails wsX3_voltsFor := goodIn_r _ [14, 15, 16, 17, 18, 19, 20, 21, 22, 23, 24, 25, 26, 13, 27, 28, 52, 53, 54, 55, 56, 57, 58, 59, 60, 61, 62, 63, 64, 65, 66, 67, 68, 69, 70, 71, 72, 73, 74, 75, 76] (by decide +kernel) (by decide +kernel)
set_option maxRecDepth 20000 in
theorem gX8_driveRails_X3_voltsFor : GoodIn wsX8_driveRails (wsV RX8 160 RX3 yX3_voltsFor wsX3_voltsFor) := goodIn_app (goodIn_of _ (by decide +kernel)) ggX8_driveRails_X3_voltsFor
set_option maxRecDepth 20000 in
theorem ggX8_driveRails_X4_goTowardsTarget : GoodIn wsX8_driveRails wsX4_goTowardsTarget := goodIn_r _ [33, 34, 35, 36, 37, 8, 38, 39, 7, 9, 50, 51] (by decide +kernel) (by decide +kernel)
set_option maxRecDepth 20000 in
theorem gX8_driveRails_X4_goTowardsTarget : GoodIn wsX8_driveRails (wsV RX8 420 RX4 yX4_goTowardsTarget wsX4_goTowardsTarget) := goodIn_app (goodIn_of _ (by decide +kernel)) ggX8_driveRails_X4_goTowardsTarget
theorem dX8_driveRails_0 : decode cX8_driveRails 0 = .ok (.aload_n 0, 1) := by decide +kernel
theorem dX8_driveRails_1 : decode cX8_driveRails 1 = .ok (.getfield 11, 3) := by decide +kernel
theorem dX8_driveRails_4 : decode cX8_driveRails 4 = .ok (.astore_n 1, 1) := by decide +kernel
theorem dX8_driveRails_5 : decode cX8_driveRails 5 = .ok (.aload_n 1, 1) := by decide +kernel
theorem dX8_driveRails_6 : decode cX8_driveRails 6 = .ok (.arraylength, 1) := by decide +kernel
theorem dX8_driveRails_7 : decode cX8_driveRails 7 = .ok (.istore_n 2, 1) := by decide +kernel
theorem dX8_driveRails_8 : decode cX8_driveRails 8 = .ok (.iconst 0, 1) := by decide +kernel
theorem dX8_driveRails_9 : decode cX8_driveRails 9 = .ok (.istore_n 3, 1) := by decide +kernel
theorem dX8_driveRails_10 : decode cX8_driveRails 10 = .ok (.iload_n 3, 1) := by decide +kernel
theorem dX8_driveRails_11 : decode cX8_driveRails 11 = .ok (.iload_n 2, 1) := by decide +kernel
theorem dX8_driveRails_12 : decode cX8_driveRails 12 = .ok (.if_icmp .ge 27, 3) := by decide +kernel
theorem dX8_driveRails_15 : decode cX8_driveRails 15 = .ok (.aload_n 1, 1) := by decide +kernel
theorem dX8_driveRails_16 : decode cX8_driveRails 16 = .ok (.iload_n 3, 1) := by decide +kernel
theorem dX8_driveRails_17 : decode cX8_driveRails 17 = .ok (.aaload, 1) := by decide +kernel
theorem dX8_driveRails_18 : decode cX8_driveRails 18 = .ok (.astore 4, 2) := by decide +kernel
theorem dX8_driveRails_20 : decode cX8_driveRails 20 = .ok (.aload 4, 2) := by decide +kernel
theorem dX8_driveRails_22 : decode cX8_driveRails 22 = .ok (.ifnull 11, 3) := by decide +kernel
theorem dX8_driveRails_25 : decode cX8_driveRails 25 = .ok (.aload 4, 2) := by decide +kernel
theorem dX8_driveRails_27 : decode cX8_driveRails 27 = .ok (.sipush 500, 3) := by decide +kernel
theorem dX8_driveRails_30 : decode cX8_driveRails 30 = .ok (.putfield 407, 3) := by decide +kernel
theorem dX8_driveRails_33 : decode cX8_driveRails 33 = .ok (.iinc 3 1, 3) := by decide +kernel
theorem dX8_driveRails_36 : decode cX8_driveRails 36 = .ok (.goto (-26), 3) := by decide +kernel
theorem dX8_driveRails_39 : decode cX8_driveRails 39 = .ok (.aload_n 0, 1) := by decide +kernel
theorem dX8_driveRails_40 : decode cX8_driveRails 40 = .ok (.getfield 17, 3) := by decide +kernel
theorem dX8_driveRails_43 : decode cX8_driveRails 43 = .ok (.astore_n 1, 1) := by decide +kernel
theorem dX8_driveRails_44 : decode cX8_driveRails 44 = .ok (.aload_n 1, 1) := by decide +kernel
theorem dX8_driveRails_45 : decode cX8_driveRails 45 = .ok (.arraylength, 1) := by decide +kernel
theorem dX8_driveRails_46 : decode cX8_driveRails 46 = .ok (.istore_n 2, 1) := by decide +kernel
theorem dX8_driveRails_47 : decode cX8_driveRails 47 = .ok (.iconst 0, 1) := by decide +kernel
theorem dX8_driveRails_48 : decode cX8_driveRails 48 = .ok (.istore_n 3, 1) := by decide +kernel
theorem dX8_driveRails_49 : decode cX8_driveRails 49 = .ok (.iload_n 3, 1) := by decide +kernel
theorem dX8_driveRails_50 : decode cX8_driveRails 50 = .ok (.iload_n 2, 1) := by decide +kernel
theorem dX8_driveRails_51 : decode cX8_driveRails 51 = .ok (.if_icmp .ge 48, 3) := by decide +kernel
theorem dX8_driveRails_54 : decode cX8_driveRails 54 = .ok (.aload_n 1, 1) := by decide +kernel
theorem dX8_driveRails_55 : decode cX8_driveRails 55 = .ok (.iload_n 3, 1) := by decide +kernel
theorem dX8_driveRails_56 : decode cX8_driveRails 56 = .ok (.aaload, 1) := by decide +kernel
theorem dX8_driveRails_57 : decode cX8_driveRails 57 = .ok (.astore 4, 2) := by decide +kernel
theorem dX8_driveRails_59 : decode cX8_driveRails 59 = .ok (.aload 4, 2) := by decide +kernel
theorem dX8_driveRails_61 : decode cX8_driveRails 61 = .ok (.ifnull 32, 3) := by decide +kernel
theorem dX8_driveRails_64 : decode cX8_driveRails 64 = .ok (.aload 4, 2) := by decide +kernel
theorem dX8_driveRails_66 : decode cX8_driveRails 66 = .ok (.getfield 410, 3) := by decide +kernel
theorem dX8_driveRails_69 : decode cX8_driveRails 69 = .ok (.aload 4, 2) := by decide +kernel
theorem dX8_driveRails_71 : decode cX8_driveRails 71 = .ok (.getfield 410, 3) := by decide +kernel
theorem dX8_driveRails_74 : decode cX8_driveRails 74 = .ok (.getfield 407, 3) := by decide +kernel
theorem dX8_driveRails_77 : decode cX8_driveRails 77 = .ok (.aload 4, 2) := by decide +kernel
theorem dX8_driveRails_79 : decode cX8_driveRails 79 = .ok (.aload 4, 2) := by decide +kernel
theorem dX8_driveRails_81 : decode cX8_driveRails 81 = .ok (.getfield 394, 3) := by decide +kernel
theorem dX8_driveRails_84 : decode cX8_driveRails 84 = .ok (.invokevirtual 160, 3) := by decide +kernel
theorem dX8_driveRails_87 : decode cX8_driveRails 87 = .ok (.invokestatic 414, 3) := by decide +kernel
theorem dX8_driveRails_90 : decode cX8_driveRails 90 = .ok (.putfield 407, 3) := by decide +kernel
theorem dX8_driveRails_93 : decode cX8_driveRails 93 = .ok (.iinc 3 1, 3) := by decide +kernel
theorem dX8_driveRails_96 : decode cX8_driveRails 96 = .ok (.goto (-47), 3) := by decide +kernel
theorem dX8_driveRails_99 : decode cX8_driveRails 99 = .ok (.aload_n 0, 1) := by decide +kernel
theorem dX8_driveRails_100 : decode cX8_driveRails 100 = .ok (.getfield 11, 3) := by decide +kernel
theorem dX8_driveRails_103 : decode cX8_driveRails 103 = .ok (.astore_n 1, 1) := by decide +kernel
theorem dX8_driveRails_104 : decode cX8_driveRails 104 = .ok (.aload_n 1, 1) := by decide +kernel
theorem dX8_driveRails_105 : decode cX8_driveRails 105 = .ok (.arraylength, 1) := by decide +kernel
theorem dX8_driveRails_106 : decode cX8_driveRails 106 = .ok (.istore_n 2, 1) := by decide +kernel
theorem dX8_driveRails_107 : decode cX8_driveRails 107 = .ok (.iconst 0, 1) := by decide +kernel
theorem dX8_driveRails_108 : decode cX8_driveRails 108 = .ok (.istore_n 3, 1) := by decide +kernel
theorem dX8_driveRails_109 : decode cX8_driveRails 109 = .ok (.iload_n 3, 1) := by decide +kernel
theorem dX8_driveRails_110 : decode cX8_driveRails 110 = .ok (.iload_n 2, 1) := by decide +kernel
theorem dX8_driveRails_111 : decode cX8_driveRails 111 = .ok (.if_icmp .ge 24, 3) := by decide +kernel
theorem dX8_driveRails_114 : decode cX8_driveRails 114 = .ok (.aload_n 1, 1) := by decide +kernel
theorem dX8_driveRails_115 : decode cX8_driveRails 115 = .ok (.iload_n 3, 1) := by decide +kernel
theorem dX8_driveRails_116 : decode cX8_driveRails 116 = .ok (.aaload, 1) := by decide +kernel
theorem dX8_driveRails_117 : decode cX8_driveRails 117 = .ok (.astore 4, 2) := by decide +kernel
theorem dX8_driveRails_119 : decode cX8_driveRails 119 = .ok (.aload 4, 2) := by decide +kernel
theorem dX8_driveRails_121 : decode cX8_driveRails 121 = .ok (.ifnull 8, 3) := by decide +kernel
theorem dX8_driveRails_124 : decode cX8_driveRails 124 = .ok (.aload 4, 2) := by decide +kernel
theorem dX8_driveRails_126 : decode cX8_driveRails 126 = .ok (.invokevirtual 420, 3) := by decide +kernel
theorem dX8_driveRails_129 : decode cX8_driveRails 129 = .ok (.iinc 3 1, 3) := by decide +kernel
theorem dX8_driveRails_132 : decode cX8_driveRails 132 = .ok (.goto (-23), 3) := by decide +kernel
theorem dX8_driveRails_135 : decode cX8_driveRails 135 = .ok (.return_, 1) := by decide +kernel
set_option maxRecDepth 20000 in
theorem ggX8_letCoresRun_X3_setSpeed : GoodIn wsX8_letCoresRun wsX3_setSpeed := goodIn_r _ [8, 9, 10, 11, 12, 13, 14, 15, 7, 16, 17, 18, 19, 20, 21, 22, 23, 24, 25, 26, 27, 28, 29, 30, 69, 70, 71, 72, 73, 74, 75, 76, 77, 78, 79, 80, 81, 82, 83, 84, 85, 86, 87, 88, 89, 90, 91, 92, 93, 94, 95] (by decide +kernel) (by decide +kernel)
set_option maxRecDepth 20000 in
theorem gX8_letCoresRun_X3_setSpeed : GoodIn wsX8_letCoresRun (wsV RX8 423 RX3 yX3_setSpeed wsX3_setSpeed) := goodIn_app (goodIn_of _ (by decide +kernel)) ggX8_letCoresRun_X3_setSpeed
set_option maxRecDepth 20000 in
theorem ggX8_letCoresRun_X8_runningOn : GoodIn wsX8_letCoresRun wsX8_runningOn := goodIn_r _ [35, 36, 37, 38, 59, 60, 61, 62, 63, 64, 65, 66, 67, 68, 96, 97, 98, 99] (by decide +kernel) (by decide +kernel)
set_option maxRecDepth 20000 in
theorem gX8_letCoresRun_X8_runningOn : GoodIn wsX8_letCoresRun (wsV RX8 151 RX8 yX8_runningOn wsX8_runningOn) := goodIn_app (goodIn_of _ (by decide +kernel)) ggX8_letCoresRun_X8_runningOn
set_option maxRecDepth 20000 in
theorem ggX8_letCoresRun_X3_workOfOneSpeed : GoodIn wsX8_letCoresRun wsX3_workOfOneSpeed := goodIn_r _ [42, 43, 69, 70, 71, 72, 73, 74, 75, 76, 77, 78, 79, 80, 81, 82, 83, 84, 85, 86, 87, 88] (by decide +kernel) (by decide +kernel)
set_option maxRecDepth 20000 in
theorem gX8_letCoresRun_X3_workOfOneSpeed : GoodIn wsX8_letCoresRun (wsV RX8 426 RX3 yX3_workOfOneSpeed wsX3_workOfOneSpeed) := goodIn_app (goodIn_of _ (by decide +kernel)) ggX8_letCoresRun_X3_workOfOneSpeed
set_option maxRecDepth 20000 in
theorem ggX8_letCoresRun_X7_workAt : GoodIn wsX8_letCoresRun wsX7_workAt := goodIn_r _ [48, 49, 50, 51, 52, 53, 54, 55, 56, 57, 58, 96, 97, 98, 99] (by decide +kernel) (by decide +kernel)
set_option maxRecDepth 20000 in
theorem gX8_letCoresRun_X7_workAt : GoodIn wsX8_letCoresRun (wsV RX8 429 RX7 yX7_workAt wsX7_workAt) := goodIn_app (goodIn_of _ (by decide +kernel)) ggX8_letCoresRun_X7_workAt
theorem dX8_letCoresRun_0 : decode cX8_letCoresRun 0 = .ok (.aload_n 0, 1) := by decide +kernel
theorem dX8_letCoresRun_1 : decode cX8_letCoresRun 1 = .ok (.getfield 17, 3) := by decide +kernel
theorem dX8_letCoresRun_4 : decode cX8_letCoresRun 4 = .ok (.astore_n 1, 1) := by decide +kernel
theorem dX8_letCoresRun_5 : decode cX8_letCoresRun 5 = .ok (.aload_n 1, 1) := by decide +kernel
theorem dX8_letCoresRun_6 : decode cX8_letCoresRun 6 = .ok (.arraylength, 1) := by decide +kernel
theorem dX8_letCoresRun_7 : decode cX8_letCoresRun 7 = .ok (.istore_n 2, 1) := by decide +kernel
theorem dX8_letCoresRun_8 : decode cX8_letCoresRun 8 = .ok (.iconst 0, 1) := by decide +kernel
theorem dX8_letCoresRun_9 : decode cX8_letCoresRun 9 = .ok (.istore_n 3, 1) := by decide +kernel
theorem dX8_letCoresRun_10 : decode cX8_letCoresRun 10 = .ok (.iload_n 3, 1) := by decide +kernel
theorem dX8_letCoresRun_11 : decode cX8_letCoresRun 11 = .ok (.iload_n 2, 1) := by decide +kernel
theorem dX8_letCoresRun_12 : decode cX8_letCoresRun 12 = .ok (.if_icmp .ge 64, 3) := by decide +kernel
theorem dX8_letCoresRun_15 : decode cX8_letCoresRun 15 = .ok (.aload_n 1, 1) := by decide +kernel
theorem dX8_letCoresRun_16 : decode cX8_letCoresRun 16 = .ok (.iload_n 3, 1) := by decide +kernel
theorem dX8_letCoresRun_17 : decode cX8_letCoresRun 17 = .ok (.aaload, 1) := by decide +kernel
theorem dX8_letCoresRun_18 : decode cX8_letCoresRun 18 = .ok (.astore 4, 2) := by decide +kernel
theorem dX8_letCoresRun_20 : decode cX8_letCoresRun 20 = .ok (.aload 4, 2) := by decide +kernel
theorem dX8_letCoresRun_22 : decode cX8_letCoresRun 22 = .ok (.ifnull 48, 3) := by decide +kernel
theorem dX8_letCoresRun_25 : decode cX8_letCoresRun 25 = .ok (.aload 4, 2) := by decide +kernel
theorem dX8_letCoresRun_27 : decode cX8_letCoresRun 27 = .ok (.invokevirtual 423, 3) := by decide +kernel
theorem dX8_letCoresRun_30 : decode cX8_letCoresRun 30 = .ok (.aload_n 0, 1) := by decide +kernel
theorem dX8_letCoresRun_31 : decode cX8_letCoresRun 31 = .ok (.aload 4, 2) := by decide +kernel
theorem dX8_letCoresRun_33 : decode cX8_letCoresRun 33 = .ok (.getfield 289, 3) := by decide +kernel
theorem dX8_letCoresRun_36 : decode cX8_letCoresRun 36 = .ok (.invokevirtual 151, 3) := by decide +kernel
theorem dX8_letCoresRun_39 : decode cX8_letCoresRun 39 = .ok (.astore 5, 2) := by decide +kernel
theorem dX8_letCoresRun_41 : decode cX8_letCoresRun 41 = .ok (.aload 5, 2) := by decide +kernel
theorem dX8_letCoresRun_43 : decode cX8_letCoresRun 43 = .ok (.ifnull 27, 3) := by decide +kernel
theorem dX8_letCoresRun_46 : decode cX8_letCoresRun 46 = .ok (.aload 4, 2) := by decide +kernel
theorem dX8_letCoresRun_48 : decode cX8_letCoresRun 48 = .ok (.getfield 139, 3) := by decide +kernel
theorem dX8_letCoresRun_51 : decode cX8_letCoresRun 51 = .ok (.ifCond .le 19, 3) := by decide +kernel
theorem dX8_letCoresRun_54 : decode cX8_letCoresRun 54 = .ok (.aload 5, 2) := by decide +kernel
theorem dX8_letCoresRun_56 : decode cX8_letCoresRun 56 = .ok (.aload 4, 2) := by decide +kernel
theorem dX8_letCoresRun_58 : decode cX8_letCoresRun 58 = .ok (.getfield 139, 3) := by decide +kernel
theorem dX8_letCoresRun_61 : decode cX8_letCoresRun 61 = .ok (.aload 4, 2) := by decide +kernel
theorem dX8_letCoresRun_63 : decode cX8_letCoresRun 63 = .ok (.invokevirtual 426, 3) := by decide +kernel
theorem dX8_letCoresRun_66 : decode cX8_letCoresRun 66 = .ok (.imul, 1) := by decide +kernel
theorem dX8_letCoresRun_67 : decode cX8_letCoresRun 67 = .ok (.invokevirtual 429, 3) := by decide +kernel
theorem dX8_letCoresRun_70 : decode cX8_letCoresRun 70 = .ok (.iinc 3 1, 3) := by decide +kernel
theorem dX8_letCoresRun_73 : decode cX8_letCoresRun 73 = .ok (.goto (-63), 3) := by decide +kernel
theorem dX8_letCoresRun_76 : decode cX8_letCoresRun 76 = .ok (.return_, 1) := by decide +kernel
set_option maxRecDepth 20000 in
theorem ggX8_heatCores_X0_become : GoodIn wsX8_heatCores wsX0_become := goodIn_r _ [9, 10, 11, 12, 13, 14, 8, 15, 16, 17, 18, 19, 20, 21, 22, 23, 24, 25, 26, 101, 102] (by decide +kernel) (by decide +kernel)
set_option maxRecDepth 20000 in
theorem gX8_heatCores_X0_become : GoodIn wsX8_heatCores (wsV RX8 212 RX0 yX0_become wsX0_become) := goodIn_app (goodIn_of _ (by decide +kernel)) ggX8_heatCores_X0_become
set_option maxRecDepth 20000 in
theorem ggX8_heatCores_X3_powerOfSpeed : GoodIn wsX8_heatCores wsX3_powerOfSpeed := goodIn_r _ [31, 32, 33, 34, 35, 81, 82, 83, 84, 85, 86, 87, 88, 89, 90, 91, 92, 93, 94, 95, 96, 97, 98, 99, 100, 103, 104] (by decide +kernel) (by decide +kernel)
set_option maxRecDepth 20000 in
theorem gX8_heatCores_X3_powerOfSpeed : GoodIn wsX8_heatCores (wsV RX8 432 RX3 yX3_powerOfSpeed wsX3_powerOfSpeed) := goodIn_app (goodIn_of _ (by decide +kernel)) ggX8_heatCores_X3_powerOfSpeed
set_option maxRecDepth 20000 in
theorem ggX8_heatCores_X3_tellLeak : GoodIn wsX8_heatCores wsX3_tellLeak := goodIn_r _ [39, 40, 41, 42, 33, 34, 43, 6, 7, 8, 9, 10, 11, 12, 13, 14, 15, 16, 17, 18, 19, 20, 21, 22, 23, 24, 25, 26, 44, 45, 46, 47, 48, 49, 50, 51, 52, 53, 54, 55, 56, 81, 82, 83, 84, 85, 86, 87, 88, 89, 90, 91, 92, 93, 94, 95, 96, 97, 98, 99, 100, 105, 106, 107, 103, 104, 101, 102] (by decide +kernel) (by decide +kernel)
set_option maxRecDepth 20000 in
theorem gX8_heatCores_X3_tellLeak : GoodIn wsX8_heatCores (wsV RX8 435 RX3 yX3_tellLeak wsX3_tellLeak) := goodIn_app (goodIn_of _ (by decide +kernel)) ggX8_heatCores_X3_tellLeak
set_option maxRecDepth 20000 in
theorem ggX8_heatCores_X1_gain : GoodIn wsX8_heatCores wsX1_gain := goodIn_r _ [61, 62, 63, 64, 65, 66, 67, 8, 68, 10, 48, 11, 12, 13, 14, 15, 16, 17, 18, 19, 20, 21, 22, 49, 50, 51, 52, 23, 24, 25, 26, 69, 54, 55, 56, 105, 106, 107, 101, 102] (by decide +kernel) (by decide +kernel)
set_option maxRecDepth 20000 in
theorem gX8_heatCores_X1_gain : GoodIn wsX8_heatCores (wsV RX8 216 RX1 yX1_gain wsX1_gain) := goodIn_app (goodIn_of _ (by decide +kernel)) ggX8_heatCores_X1_gain
set_option maxRecDepth 20000 in
theorem ggX8_heatCores_X0_add : GoodIn wsX8_heatCores wsX0_add := goodIn_r _ [68, 10, 48, 11, 12, 13, 14, 8, 15, 16, 17, 18, 19, 20, 21, 22, 49, 50, 51, 52, 23, 24, 25, 26, 101, 102] (by decide +kernel) (by decide +kernel)
set_option maxRecDepth 20000 in
theorem gX8_heatCores_X0_add : GoodIn wsX8_heatCores (wsV RX8 294 RX0 yX0_add wsX0_add) := goodIn_app (goodIn_of _ (by decide +kernel)) ggX8_heatCores_X0_add
theorem dX8_heatCores_0 : decode cX8_heatCores 0 = .ok (.aload_n 0, 1) := by decide +kernel
theorem dX8_heatCores_1 : decode cX8_heatCores 1 = .ok (.getfield 51, 3) := by decide +kernel
theorem dX8_heatCores_4 : decode cX8_heatCores 4 = .ok (.iconst 0, 1) := by decide +kernel
theorem dX8_heatCores_5 : decode cX8_heatCores 5 = .ok (.invokevirtual 212, 3) := by decide +kernel
theorem dX8_heatCores_8 : decode cX8_heatCores 8 = .ok (.aload_n 0, 1) := by decide +kernel
theorem dX8_heatCores_9 : decode cX8_heatCores 9 = .ok (.getfield 17, 3) := by decide +kernel
theorem dX8_heatCores_12 : decode cX8_heatCores 12 = .ok (.astore_n 1, 1) := by decide +kernel
theorem dX8_heatCores_13 : decode cX8_heatCores 13 = .ok (.aload_n 1, 1) := by decide +kernel
theorem dX8_heatCores_14 : decode cX8_heatCores 14 = .ok (.arraylength, 1) := by decide +kernel
theorem dX8_heatCores_15 : decode cX8_heatCores 15 = .ok (.istore_n 2, 1) := by decide +kernel
theorem dX8_heatCores_16 : decode cX8_heatCores 16 = .ok (.iconst 0, 1) := by decide +kernel
theorem dX8_heatCores_17 : decode cX8_heatCores 17 = .ok (.istore_n 3, 1) := by decide +kernel
theorem dX8_heatCores_18 : decode cX8_heatCores 18 = .ok (.iload_n 3, 1) := by decide +kernel
theorem dX8_heatCores_19 : decode cX8_heatCores 19 = .ok (.iload_n 2, 1) := by decide +kernel
theorem dX8_heatCores_20 : decode cX8_heatCores 20 = .ok (.if_icmp .ge 90, 3) := by decide +kernel
theorem dX8_heatCores_23 : decode cX8_heatCores 23 = .ok (.aload_n 1, 1) := by decide +kernel
theorem dX8_heatCores_24 : decode cX8_heatCores 24 = .ok (.iload_n 3, 1) := by decide +kernel
theorem dX8_heatCores_25 : decode cX8_heatCores 25 = .ok (.aaload, 1) := by decide +kernel
theorem dX8_heatCores_26 : decode cX8_heatCores 26 = .ok (.astore 4, 2) := by decide +kernel
theorem dX8_heatCores_28 : decode cX8_heatCores 28 = .ok (.aload 4, 2) := by decide +kernel
theorem dX8_heatCores_30 : decode cX8_heatCores 30 = .ok (.ifnull 74, 3) := by decide +kernel
theorem dX8_heatCores_33 : decode cX8_heatCores 33 = .ok (.aload 4, 2) := by decide +kernel
theorem dX8_heatCores_35 : decode cX8_heatCores 35 = .ok (.invokevirtual 432, 3) := by decide +kernel
theorem dX8_heatCores_38 : decode cX8_heatCores 38 = .ok (.istore 5, 2) := by decide +kernel
theorem dX8_heatCores_40 : decode cX8_heatCores 40 = .ok (.aload 4, 2) := by decide +kernel
theorem dX8_heatCores_42 : decode cX8_heatCores 42 = .ok (.aload_n 0, 1) := by decide +kernel
theorem dX8_heatCores_43 : decode cX8_heatCores 43 = .ok (.getfield 55, 3) := by decide +kernel
theorem dX8_heatCores_46 : decode cX8_heatCores 46 = .ok (.invokevirtual 435, 3) := by decide +kernel
theorem dX8_heatCores_49 : decode cX8_heatCores 49 = .ok (.aload 4, 2) := by decide +kernel
theorem dX8_heatCores_51 : decode cX8_heatCores 51 = .ok (.getfield 167, 3) := by decide +kernel
theorem dX8_heatCores_54 : decode cX8_heatCores 54 = .ok (.aload_n 0, 1) := by decide +kernel
theorem dX8_heatCores_55 : decode cX8_heatCores 55 = .ok (.getfield 55, 3) := by decide +kernel
theorem dX8_heatCores_58 : decode cX8_heatCores 58 = .ok (.invokevirtual 216, 3) := by decide +kernel
theorem dX8_heatCores_61 : decode cX8_heatCores 61 = .ok (.aload_n 0, 1) := by decide +kernel
theorem dX8_heatCores_62 : decode cX8_heatCores 62 = .ok (.getfield 51, 3) := by decide +kernel
theorem dX8_heatCores_65 : decode cX8_heatCores 65 = .ok (.aload_n 0, 1) := by decide +kernel
theorem dX8_heatCores_66 : decode cX8_heatCores 66 = .ok (.getfield 55, 3) := by decide +kernel
theorem dX8_heatCores_69 : decode cX8_heatCores 69 = .ok (.invokevirtual 294, 3) := by decide +kernel
theorem dX8_heatCores_72 : decode cX8_heatCores 72 = .ok (.aload_n 0, 1) := by decide +kernel
theorem dX8_heatCores_73 : decode cX8_heatCores 73 = .ok (.getfield 55, 3) := by decide +kernel
theorem dX8_heatCores_76 : decode cX8_heatCores 76 = .ok (.iload 5, 2) := by decide +kernel
theorem dX8_heatCores_78 : decode cX8_heatCores 78 = .ok (.invokevirtual 212, 3) := by decide +kernel
theorem dX8_heatCores_81 : decode cX8_heatCores 81 = .ok (.aload 4, 2) := by decide +kernel
theorem dX8_heatCores_83 : decode cX8_heatCores 83 = .ok (.getfield 167, 3) := by decide +kernel
theorem dX8_heatCores_86 : decode cX8_heatCores 86 = .ok (.aload_n 0, 1) := by decide +kernel
theorem dX8_heatCores_87 : decode cX8_heatCores 87 = .ok (.getfield 55, 3) := by decide +kernel
theorem dX8_heatCores_90 : decode cX8_heatCores 90 = .ok (.invokevirtual 216, 3) := by decide +kernel
theorem dX8_heatCores_93 : decode cX8_heatCores 93 = .ok (.aload_n 0, 1) := by decide +kernel
theorem dX8_heatCores_94 : decode cX8_heatCores 94 = .ok (.getfield 51, 3) := by decide +kernel
theorem dX8_heatCores_97 : decode cX8_heatCores 97 = .ok (.aload_n 0, 1) := by decide +kernel
theorem dX8_heatCores_98 : decode cX8_heatCores 98 = .ok (.getfield 55, 3) := by decide +kernel
theorem dX8_heatCores_101 : decode cX8_heatCores 101 = .ok (.invokevirtual 294, 3) := by decide +kernel
theorem dX8_heatCores_104 : decode cX8_heatCores 104 = .ok (.iinc 3 1, 3) := by decide +kernel
theorem dX8_heatCores_107 : decode cX8_heatCores 107 = .ok (.goto (-89), 3) := by decide +kernel
theorem dX8_heatCores_110 : decode cX8_heatCores 110 = .ok (.return_, 1) := by decide +kernel
set_option maxRecDepth 20000 in
theorem ggX8_flowToCase_X0_isLess : GoodIn wsX8_flowToCase wsX0_isLess := goodIn_r _ [11, 12, 13, 14, 15, 10, 16, 17, 18, 19, 20, 21, 22, 23, 24, 101, 102] (by decide +kernel) (by decide +kernel)
set_option maxRecDepth 20000 in
theorem gX8_flowToCase_X0_isLess : GoodIn wsX8_flowToCase (wsV RX8 438 RX0 yX0_isLess wsX0_isLess) := goodIn_app (goodIn_of _ (by decide +kernel)) ggX8_flowToCase_X0_isLess
set_option maxRecDepth 20000 in
theorem ggX8_flowToCase_X0_becomeSame : GoodIn wsX8_flowToCase wsX0_becomeSame := goodIn_r _ [28, 12, 17, 13, 14, 15, 10, 16, 18, 19, 20, 21, 22, 23, 24, 29, 30, 31, 32, 101, 102] (by decide +kernel) (by decide +kernel)
set_option maxRecDepth 20000 in
theorem gX8_flowToCase_X0_becomeSame : GoodIn wsX8_flowToCase (wsV RX8 442 RX0 yX0_becomeSame wsX0_becomeSame) := goodIn_app (goodIn_of _ (by decide +kernel)) ggX8_flowToCase_X0_becomeSame
set_option maxRecDepth 20000 in
theorem ggX8_flowToCase_X0_takeAway : GoodIn wsX8_flowToCase wsX0_takeAway := goodIn_r _ [36, 12, 37, 13, 14, 15, 10, 16, 17, 18, 19, 20, 21, 22, 23, 24, 29, 30, 31, 32, 101, 102] (by decide +kernel) (by decide +kernel)
set_option maxRecDepth 20000 in
theorem gX8_flowToCase_X0_takeAway : GoodIn wsX8_flowToCase (wsV RX8 445 RX0 yX0_takeAway wsX0_takeAway) := goodIn_app (goodIn_of _ (by decide +kernel)) ggX8_flowToCase_X0_takeAway
set_option maxRecDepth 20000 in
theorem ggX8_flowToCase_X1_giveAway : GoodIn wsX8_flowToCase wsX1_giveAway := goodIn_r _ [42, 43, 44, 45, 46, 34, 35, 10, 36, 12, 37, 13, 14, 15, 16, 17, 18, 19, 20, 21, 22, 23, 24, 29, 30, 31, 32, 47, 48, 49, 50, 93, 94, 95, 101, 102] (by decide +kernel) (by decide +kernel)
set_option maxRecDepth 20000 in
theorem gX8_flowToCase_X1_giveAway : GoodIn wsX8_flowToCase (wsV RX8 448 RX1 yX1_giveAway wsX1_giveAway) := goodIn_app (goodIn_of _ (by decide +kernel)) ggX8_flowToCase_X1_giveAway
set_option maxRecDepth 20000 in
theorem ggX8_flowToCase_X1_gain : GoodIn wsX8_flowToCase wsX1_gain := goodIn_r _ [54, 43, 44, 45, 55, 56, 57, 10, 58, 12, 37, 17, 13, 14, 15, 16, 18, 19, 20, 21, 22, 23, 24, 59, 60, 61, 62, 29, 30, 31, 32, 47, 48, 49, 50, 93, 94, 95, 101, 102] (by decide +kernel) (by decide +kernel)
set_option maxRecDepth 20000 in
theorem gX8_flowToCase_X1_gain : GoodIn wsX8_flowToCase (wsV RX8 216 RX1 yX1_gain wsX1_gain) := goodIn_app (goodIn_of _ (by decide +kernel)) ggX8_flowToCase_X1_gain
theorem dX8_flowToCase_0 : decode cX8_flowToCase 0 = .ok (.aload_n 0, 1) := by decide +kernel
theorem dX8_flowToCase_1 : decode cX8_flowToCase 1 = .ok (.getfield 17, 3) := by decide +kernel
theorem dX8_flowToCase_4 : decode cX8_flowToCase 4 = .ok (.astore_n 1, 1) := by decide +kernel
theorem dX8_flowToCase_5 : decode cX8_flowToCase 5 = .ok (.aload_n 1, 1) := by decide +kernel
theorem dX8_flowToCase_6 : decode cX8_flowToCase 6 = .ok (.arraylength, 1) := by decide +kernel
theorem dX8_flowToCase_7 : decode cX8_flowToCase 7 = .ok (.istore_n 2, 1) := by decide +kernel
theorem dX8_flowToCase_8 : decode cX8_flowToCase 8 = .ok (.iconst 0, 1) := by decide +kernel
theorem dX8_flowToCase_9 : decode cX8_flowToCase 9 = .ok (.istore_n 3, 1) := by decide +kernel
theorem dX8_flowToCase_10 : decode cX8_flowToCase 10 = .ok (.iload_n 3, 1) := by decide +kernel
theorem dX8_flowToCase_11 : decode cX8_flowToCase 11 = .ok (.iload_n 2, 1) := by decide +kernel
theorem dX8_flowToCase_12 : decode cX8_flowToCase 12 = .ok (.if_icmp .ge 128, 3) := by decide +kernel
theorem dX8_flowToCase_15 : decode cX8_flowToCase 15 = .ok (.aload_n 1, 1) := by decide +kernel
theorem dX8_flowToCase_16 : decode cX8_flowToCase 16 = .ok (.iload_n 3, 1) := by decide +kernel
theorem dX8_flowToCase_17 : decode cX8_flowToCase 17 = .ok (.aaload, 1) := by decide +kernel
theorem dX8_flowToCase_18 : decode cX8_flowToCase 18 = .ok (.astore 4, 2) := by decide +kernel
theorem dX8_flowToCase_20 : decode cX8_flowToCase 20 = .ok (.aload 4, 2) := by decide +kernel
theorem dX8_flowToCase_22 : decode cX8_flowToCase 22 = .ok (.ifnull 112, 3) := by decide +kernel
theorem dX8_flowToCase_25 : decode cX8_flowToCase 25 = .ok (.aload 4, 2) := by decide +kernel
theorem dX8_flowToCase_27 : decode cX8_flowToCase 27 = .ok (.getfield 167, 3) := by decide +kernel
theorem dX8_flowToCase_30 : decode cX8_flowToCase 30 = .ok (.getfield 180, 3) := by decide +kernel
theorem dX8_flowToCase_33 : decode cX8_flowToCase 33 = .ok (.aload_n 0, 1) := by decide +kernel
theorem dX8_flowToCase_34 : decode cX8_flowToCase 34 = .ok (.getfield 30, 3) := by decide +kernel
theorem dX8_flowToCase_37 : decode cX8_flowToCase 37 = .ok (.getfield 183, 3) := by decide +kernel
theorem dX8_flowToCase_40 : decode cX8_flowToCase 40 = .ok (.getfield 180, 3) := by decide +kernel
theorem dX8_flowToCase_43 : decode cX8_flowToCase 43 = .ok (.invokevirtual 438, 3) := by decide +kernel
theorem dX8_flowToCase_46 : decode cX8_flowToCase 46 = .ok (.istore 5, 2) := by decide +kernel
theorem dX8_flowToCase_48 : decode cX8_flowToCase 48 = .ok (.iload 5, 2) := by decide +kernel
theorem dX8_flowToCase_50 : decode cX8_flowToCase 50 = .ok (.ifCond .eq 13, 3) := by decide +kernel
theorem dX8_flowToCase_53 : decode cX8_flowToCase 53 = .ok (.aload_n 0, 1) := by decide +kernel
theorem dX8_flowToCase_54 : decode cX8_flowToCase 54 = .ok (.getfield 30, 3) := by decide +kernel
theorem dX8_flowToCase_57 : decode cX8_flowToCase 57 = .ok (.getfield 183, 3) := by decide +kernel
theorem dX8_flowToCase_60 : decode cX8_flowToCase 60 = .ok (.goto 8, 3) := by decide +kernel
theorem dX8_flowToCase_63 : decode cX8_flowToCase 63 = .ok (.aload 4, 2) := by decide +kernel
theorem dX8_flowToCase_65 : decode cX8_flowToCase 65 = .ok (.getfield 167, 3) := by decide +kernel
theorem dX8_flowToCase_68 : decode cX8_flowToCase 68 = .ok (.astore 6, 2) := by decide +kernel
theorem dX8_flowToCase_70 : decode cX8_flowToCase 70 = .ok (.iload 5, 2) := by decide +kernel
theorem dX8_flowToCase_72 : decode cX8_flowToCase 72 = .ok (.ifCond .eq 11, 3) := by decide +kernel
theorem dX8_flowToCase_75 : decode cX8_flowToCase 75 = .ok (.aload 4, 2) := by decide +kernel
theorem dX8_flowToCase_77 : decode cX8_flowToCase 77 = .ok (.getfield 167, 3) := by decide +kernel
theorem dX8_flowToCase_80 : decode cX8_flowToCase 80 = .ok (.goto 10, 3) := by decide +kernel
theorem dX8_flowToCase_83 : decode cX8_flowToCase 83 = .ok (.aload_n 0, 1) := by decide +kernel
theorem dX8_flowToCase_84 : decode cX8_flowToCase 84 = .ok (.getfield 30, 3) := by decide +kernel
theorem dX8_flowToCase_87 : decode cX8_flowToCase 87 = .ok (.getfield 183, 3) := by decide +kernel
theorem dX8_flowToCase_90 : decode cX8_flowToCase 90 = .ok (.astore 7, 2) := by decide +kernel
theorem dX8_flowToCase_92 : decode cX8_flowToCase 92 = .ok (.aload_n 0, 1) := by decide +kernel
theorem dX8_flowToCase_93 : decode cX8_flowToCase 93 = .ok (.getfield 55, 3) := by decide +kernel
theorem dX8_flowToCase_96 : decode cX8_flowToCase 96 = .ok (.aload 6, 2) := by decide +kernel
theorem dX8_flowToCase_98 : decode cX8_flowToCase 98 = .ok (.getfield 180, 3) := by decide +kernel
theorem dX8_flowToCase_101 : decode cX8_flowToCase 101 = .ok (.invokevirtual 442, 3) := by decide +kernel
theorem dX8_flowToCase_104 : decode cX8_flowToCase 104 = .ok (.aload_n 0, 1) := by decide +kernel
theorem dX8_flowToCase_105 : decode cX8_flowToCase 105 = .ok (.getfield 55, 3) := by decide +kernel
theorem dX8_flowToCase_108 : decode cX8_flowToCase 108 = .ok (.aload 7, 2) := by decide +kernel
theorem dX8_flowToCase_110 : decode cX8_flowToCase 110 = .ok (.getfield 180, 3) := by decide +kernel
theorem dX8_flowToCase_113 : decode cX8_flowToCase 113 = .ok (.invokevirtual 445, 3) := by decide +kernel
theorem dX8_flowToCase_116 : decode cX8_flowToCase 116 = .ok (.aload 6, 2) := by decide +kernel
theorem dX8_flowToCase_118 : decode cX8_flowToCase 118 = .ok (.aload_n 0, 1) := by decide +kernel
theorem dX8_flowToCase_119 : decode cX8_flowToCase 119 = .ok (.getfield 55, 3) := by decide +kernel
theorem dX8_flowToCase_122 : decode cX8_flowToCase 122 = .ok (.invokevirtual 448, 3) := by decide +kernel
theorem dX8_flowToCase_125 : decode cX8_flowToCase 125 = .ok (.aload 7, 2) := by decide +kernel
theorem dX8_flowToCase_127 : decode cX8_flowToCase 127 = .ok (.aload_n 0, 1) := by decide +kernel
theorem dX8_flowToCase_128 : decode cX8_flowToCase 128 = .ok (.getfield 55, 3) := by decide +kernel
theorem dX8_flowToCase_131 : decode cX8_flowToCase 131 = .ok (.invokevirtual 216, 3) := by decide +kernel
theorem dX8_flowToCase_134 : decode cX8_flowToCase 134 = .ok (.iinc 3 1, 3) := by decide +kernel
theorem dX8_flowToCase_137 : decode cX8_flowToCase 137 = .ok (.goto (-127), 3) := by decide +kernel
theorem dX8_flowToCase_140 : decode cX8_flowToCase 140 = .ok (.return_, 1) := by decide +kernel
abbrev vwCl : List vw_C := [(RJx35411, TJx35411, 4), (RJx4a65c, TJx4a65c, 3), (RX0, TX0, 2), (RX1, TX1, 3), (RX2, TX2, 5), (RX3, TX3, 20), (RX4, TX4, 2), (RX5, TX5, 7), (RX6, TX6, 10), (RX7, TX7, 4), (RX8, TX8, 10), (RX9, TX9, 19), (RX10, TX10, 4), (RX11, TX11, 27)]
