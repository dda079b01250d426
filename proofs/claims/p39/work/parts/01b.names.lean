def RX0 : String := "TubHire$1"
def TX0 : u_T := fun k => match k with
  | _ => ("", "", "", false)
def tyX0 : Nat → FieldType := fun k => match k with
  | _ => .int
abbrev wsX00 : List Cond := u_ws RX0 TX0 0
theorem nmX0 : ∀ a, a < 0 → ∀ b, b < 0 → a ≠ b → (TX0 a).2.1 ≠ (TX0 b).2.1 := by decide +kernel
theorem tyX0_ok : ∀ k, k < 0 → parseFieldDescriptor (TX0 k).2.2.1 = some (tyX0 k) := by decide +kernel
def RX1 : String := "TubHire$Command"
def TX1 : u_T := fun k => match k with
  | _ => ("", "", "", false)
def tyX1 : Nat → FieldType := fun k => match k with
  | _ => .int
abbrev wsX10 : List Cond := u_ws RX1 TX1 0
theorem nmX1 : ∀ a, a < 0 → ∀ b, b < 0 → a ≠ b → (TX1 a).2.1 ≠ (TX1 b).2.1 := by decide +kernel
theorem tyX1_ok : ∀ k, k < 0 → parseFieldDescriptor (TX1 k).2.2.1 = some (tyX1 k) := by decide +kernel
def RX2 : String := "TubHire$Heater"
def TX2 : u_T := fun k => match k with
  | 0 => ("TubHire$Heater", "gas", "I", false)
  | _ => ("TubHire$Heater", "tent", "I", false)
def tyX2 : Nat → FieldType := fun k => match k with
  | 0 => .int
  | _ => .int
abbrev wsX20 : List Cond := u_ws RX2 TX2 2
theorem nmX2 : ∀ a, a < 2 → ∀ b, b < 2 → a ≠ b → (TX2 a).2.1 ≠ (TX2 b).2.1 := by decide +kernel
theorem tyX2_ok : ∀ k, k < 2 → parseFieldDescriptor (TX2 k).2.2.1 = some (tyX2 k) := by decide +kernel
abbrev cX2_init : ByteArray := prog_4_method_1_code
def yX2_init : MethodName := ⟨RX2, "<init>", "()V"⟩
abbrev cX2_copyFrom : ByteArray := prog_4_method_2_code
def yX2_copyFrom : MethodName := ⟨RX2, "copyFrom", "(LTubHire$Heater;)V"⟩
def RX3 : String := "TubHire$Past"
def TX3 : u_T := fun k => match k with
  | 0 => ("TubHire$Past", "ring", "[LTubHire$Store;", true)
  | 1 => ("TubHire$Past", "next", "I", false)
  | _ => ("TubHire$Past", "count", "I", false)
def tyX3 : Nat → FieldType := fun k => match k with
  | 0 => .array (.object "TubHire$Store")
  | 1 => .int
  | _ => .int
abbrev wsX30 : List Cond := u_ws RX3 TX3 3
theorem nmX3 : ∀ a, a < 3 → ∀ b, b < 3 → a ≠ b → (TX3 a).2.1 ≠ (TX3 b).2.1 := by decide +kernel
theorem tyX3_ok : ∀ k, k < 3 → parseFieldDescriptor (TX3 k).2.2.1 = some (tyX3 k) := by decide +kernel
abbrev cX3_init : ByteArray := prog_5_method_1_code
def yX3_init : MethodName := ⟨RX3, "<init>", "()V"⟩
abbrev cX3_note : ByteArray := prog_5_method_2_code
def yX3_note : MethodName := ⟨RX3, "note", "(LTubHire$Store;)V"⟩
abbrev cX3_giveNoted : ByteArray := prog_5_method_3_code
def yX3_giveNoted : MethodName := ⟨RX3, "giveNoted", "(LTubHire$Store;)V"⟩
abbrev cX3_keep : ByteArray := prog_5_method_4_code
def yX3_keep : MethodName := ⟨RX3, "keep", "()V"⟩
abbrev cX3_giveLatest : ByteArray := prog_5_method_5_code
def yX3_giveLatest : MethodName := ⟨RX3, "giveLatest", "(LTubHire$Store;)V"⟩
def RX4 : String := "TubHire$Refusal"
def TX4 : u_T := fun k => match k with
  | 0 => ("TubHire$Refusal", "reason", "I", false)
  | _ => ("TubHire$Refusal", "detail", "I", false)
def tyX4 : Nat → FieldType := fun k => match k with
  | 0 => .int
  | _ => .int
abbrev wsX40 : List Cond := u_ws RX4 TX4 2
theorem nmX4 : ∀ a, a < 2 → ∀ b, b < 2 → a ≠ b → (TX4 a).2.1 ≠ (TX4 b).2.1 := by decide +kernel
theorem tyX4_ok : ∀ k, k < 2 → parseFieldDescriptor (TX4 k).2.2.1 = some (tyX4 k) := by decide +kernel
abbrev cX4_init : ByteArray := prog_6_method_1_code
def yX4_init : MethodName := ⟨RX4, "<init>", "()V"⟩
abbrev cX4_keep : ByteArray := prog_6_method_2_code
def yX4_keep : MethodName := ⟨RX4, "keep", "(II)I"⟩
def RX5 : String := "TubHire$Store"
def TX5 : u_T := fun k => match k with
  | 0 => ("TubHire$Store", "refusal", "LTubHire$Refusal;", true)
  | 1 => ("TubHire$Store", "tubs", "[LTubHire$Tub;", true)
  | 2 => ("TubHire$Store", "tents", "[LTubHire$Tent;", true)
  | 3 => ("TubHire$Store", "heaters", "[LTubHire$Heater;", true)
  | 4 => ("TubHire$Store", "tubCount", "I", false)
  | 5 => ("TubHire$Store", "tentCount", "I", false)
  | 6 => ("TubHire$Store", "heaterCount", "I", false)
  | 7 => ("TubHire$Store", "hour", "I", false)
  | 8 => ("TubHire$Store", "clean", "I", false)
  | 9 => ("TubHire$Store", "used", "I", false)
  | 10 => ("TubHire$Store", "came", "I", false)
  | 11 => ("TubHire$Store", "bathed", "I", false)
  | 12 => ("TubHire$Store", "soapSlices", "I", false)
  | _ => ("TubHire$Store", "coins", "I", false)
def tyX5 : Nat → FieldType := fun k => match k with
  | 0 => .object "TubHire$Refusal"
  | 1 => .array (.object "TubHire$Tub")
  | 2 => .array (.object "TubHire$Tent")
  | 3 => .array (.object "TubHire$Heater")
  | 4 => .int
  | 5 => .int
  | 6 => .int
  | 7 => .int
  | 8 => .int
  | 9 => .int
  | 10 => .int
  | 11 => .int
  | 12 => .int
  | _ => .int
abbrev wsX50 : List Cond := u_ws RX5 TX5 14
theorem nmX5 : ∀ a, a < 14 → ∀ b, b < 14 → a ≠ b → (TX5 a).2.1 ≠ (TX5 b).2.1 := by decide +kernel
theorem tyX5_ok : ∀ k, k < 14 → parseFieldDescriptor (TX5 k).2.2.1 = some (tyX5 k) := by decide +kernel
abbrev cX5_init : ByteArray := prog_7_method_1_code
def yX5_init : MethodName := ⟨RX5, "<init>", "()V"⟩
abbrev cX5_copyFrom : ByteArray := prog_7_method_2_code
def yX5_copyFrom : MethodName := ⟨RX5, "copyFrom", "(LTubHire$Store;)V"⟩
abbrev cX5_tubAt : ByteArray := prog_7_method_3_code
def yX5_tubAt : MethodName := ⟨RX5, "tubAt", "(I)LTubHire$Tub;"⟩
abbrev cX5_tentAt : ByteArray := prog_7_method_4_code
def yX5_tentAt : MethodName := ⟨RX5, "tentAt", "(I)LTubHire$Tent;"⟩
abbrev cX5_heaterAt : ByteArray := prog_7_method_5_code
def yX5_heaterAt : MethodName := ⟨RX5, "heaterAt", "(I)LTubHire$Heater;"⟩
abbrev cX5_addTub : ByteArray := prog_7_method_6_code
def yX5_addTub : MethodName := ⟨RX5, "addTub", "(I)I"⟩
abbrev cX5_addTent : ByteArray := prog_7_method_7_code
def yX5_addTent : MethodName := ⟨RX5, "addTent", "(I)I"⟩
abbrev cX5_addHeater : ByteArray := prog_7_method_8_code
def yX5_addHeater : MethodName := ⟨RX5, "addHeater", "()I"⟩
abbrev cX5_tearSeam : ByteArray := prog_7_method_9_code
def yX5_tearSeam : MethodName := ⟨RX5, "tearSeam", "(II)I"⟩
abbrev cX5_mendSeam : ByteArray := prog_7_method_10_code
def yX5_mendSeam : MethodName := ⟨RX5, "mendSeam", "(II)I"⟩
abbrev cX5_isTooDear : ByteArray := prog_7_method_11_code
def yX5_isTooDear : MethodName := ⟨RX5, "isTooDear", "(I)Z"⟩
abbrev cX5_bestStored : ByteArray := prog_7_method_12_code
def yX5_bestStored : MethodName := ⟨RX5, "bestStored", "()I"⟩
abbrev cX5_isBetter : ByteArray := prog_7_method_13_code
def yX5_isBetter : MethodName := ⟨RX5, "isBetter", "(LTubHire$Tub;LTubHire$Tub;)Z"⟩
abbrev cX5_goOut : ByteArray := prog_7_method_14_code
def yX5_goOut : MethodName := ⟨RX5, "goOut", "(II)I"⟩
abbrev cX5_bringBack : ByteArray := prog_7_method_15_code
def yX5_bringBack : MethodName := ⟨RX5, "bringBack", "(I)I"⟩
abbrev cX5_addGuest : ByteArray := prog_7_method_16_code
def yX5_addGuest : MethodName := ⟨RX5, "addGuest", "(I)I"⟩
abbrev cX5_awaits : ByteArray := prog_7_method_17_code
def yX5_awaits : MethodName := ⟨RX5, "awaits", "(I)Z"⟩
abbrev cX5_putHeater : ByteArray := prog_7_method_18_code
def yX5_putHeater : MethodName := ⟨RX5, "putHeater", "(II)I"⟩
abbrev cX5_takeHeater : ByteArray := prog_7_method_19_code
def yX5_takeHeater : MethodName := ⟨RX5, "takeHeater", "(I)I"⟩
abbrev cX5_buyGas : ByteArray := prog_7_method_20_code
def yX5_buyGas : MethodName := ⟨RX5, "buyGas", "(II)I"⟩
abbrev cX5_washTowels : ByteArray := prog_7_method_21_code
def yX5_washTowels : MethodName := ⟨RX5, "washTowels", "(I)I"⟩
abbrev cX5_buySoap : ByteArray := prog_7_method_22_code
def yX5_buySoap : MethodName := ⟨RX5, "buySoap", "(I)I"⟩
abbrev cX5_letHoursGo : ByteArray := prog_7_method_23_code
def yX5_letHoursGo : MethodName := ⟨RX5, "letHoursGo", "(I)I"⟩
abbrev cX5_letHourGoIn : ByteArray := prog_7_method_24_code
def yX5_letHourGoIn : MethodName := ⟨RX5, "letHourGoIn", "(LTubHire$Tent;)V"⟩
abbrev cX5_bathe : ByteArray := prog_7_method_25_code
def yX5_bathe : MethodName := ⟨RX5, "bathe", "(LTubHire$Tent;LTubHire$Tub;)V"⟩
abbrev cX5_burnsGas : ByteArray := prog_7_method_26_code
def yX5_burnsGas : MethodName := ⟨RX5, "burnsGas", "(I)Z"⟩
abbrev cX5_told : ByteArray := prog_7_method_27_code
def yX5_told : MethodName := ⟨RX5, "told", "(I)I"⟩
abbrev cX5_gasInAll : ByteArray := prog_7_method_28_code
def yX5_gasInAll : MethodName := ⟨RX5, "gasInAll", "()I"⟩
abbrev cX5_waitingInAll : ByteArray := prog_7_method_29_code
def yX5_waitingInAll : MethodName := ⟨RX5, "waitingInAll", "()I"⟩
abbrev cX5_toldOfTubs : ByteArray := prog_7_method_30_code
def yX5_toldOfTubs : MethodName := ⟨RX5, "toldOfTubs", "(I)I"⟩
def RX6 : String := "TubHire$Tent"
def TX6 : u_T := fun k => match k with
  | 0 => ("TubHire$Tent", "slope", "I", false)
  | 1 => ("TubHire$Tent", "tub", "I", false)
  | 2 => ("TubHire$Tent", "heater", "I", false)
  | 3 => ("TubHire$Tent", "waiting", "I", false)
  | 4 => ("TubHire$Tent", "bathed", "I", false)
  | _ => ("TubHire$Tent", "guests", "[I", true)
def tyX6 : Nat → FieldType := fun k => match k with
  | 0 => .int
  | 1 => .int
  | 2 => .int
  | 3 => .int
  | 4 => .int
  | _ => .array .int
abbrev wsX60 : List Cond := u_ws RX6 TX6 6
theorem nmX6 : ∀ a, a < 6 → ∀ b, b < 6 → a ≠ b → (TX6 a).2.1 ≠ (TX6 b).2.1 := by decide +kernel
theorem tyX6_ok : ∀ k, k < 6 → parseFieldDescriptor (TX6 k).2.2.1 = some (tyX6 k) := by decide +kernel
abbrev cX6_init : ByteArray := prog_8_method_1_code
def yX6_init : MethodName := ⟨RX6, "<init>", "()V"⟩
abbrev cX6_copyFrom : ByteArray := prog_8_method_2_code
def yX6_copyFrom : MethodName := ⟨RX6, "copyFrom", "(LTubHire$Tent;)V"⟩
abbrev cX6_told : ByteArray := prog_8_method_3_code
def yX6_told : MethodName := ⟨RX6, "told", "(I)I"⟩
abbrev cX6_guestAt : ByteArray := prog_8_method_4_code
def yX6_guestAt : MethodName := ⟨RX6, "guestAt", "(I)I"⟩
abbrev cX6_awaits : ByteArray := prog_8_method_5_code
def yX6_awaits : MethodName := ⟨RX6, "awaits", "(I)Z"⟩
abbrev cX6_append : ByteArray := prog_8_method_6_code
def yX6_append : MethodName := ⟨RX6, "append", "(I)V"⟩
abbrev cX6_removeFirst : ByteArray := prog_8_method_7_code
def yX6_removeFirst : MethodName := ⟨RX6, "removeFirst", "()V"⟩
def RX7 : String := "TubHire$Text"
def TX7 : u_T := fun k => match k with
  | 0 => ("TubHire$Text", "signs", "[C", true)
  | 1 => ("TubHire$Text", "length", "I", false)
  | 2 => ("TubHire$Text", "at", "I", false)
  | 3 => ("TubHire$Text", "command", "LTubHire$Command;", false)
  | 4 => ("TubHire$Text", "first", "I", false)
  | _ => ("TubHire$Text", "second", "I", false)
def tyX7 : Nat → FieldType := fun k => match k with
  | 0 => .array .char
  | 1 => .int
  | 2 => .int
  | 3 => .object "TubHire$Command"
  | 4 => .int
  | _ => .int
abbrev wsX70 : List Cond := u_ws RX7 TX7 6
theorem nmX7 : ∀ a, a < 6 → ∀ b, b < 6 → a ≠ b → (TX7 a).2.1 ≠ (TX7 b).2.1 := by decide +kernel
theorem tyX7_ok : ∀ k, k < 6 → parseFieldDescriptor (TX7 k).2.2.1 = some (tyX7 k) := by decide +kernel
abbrev cX7_init : ByteArray := prog_9_method_1_code
def yX7_init : MethodName := ⟨RX7, "<init>", "()V"⟩
abbrev cX7_takes : ByteArray := prog_9_method_2_code
def yX7_takes : MethodName := ⟨RX7, "takes", "(C)Z"⟩
abbrev cX7_firstFault : ByteArray := prog_9_method_3_code
def yX7_firstFault : MethodName := ⟨RX7, "firstFault", "()I"⟩
abbrev cX7_readsCommand : ByteArray := prog_9_method_4_code
def yX7_readsCommand : MethodName := ⟨RX7, "readsCommand", "()Z"⟩
abbrev cX7_readsWord : ByteArray := prog_9_method_5_code
def yX7_readsWord : MethodName := ⟨RX7, "readsWord", "()Z"⟩
abbrev cX7_fittingSigns : ByteArray := prog_9_method_6_code
def yX7_fittingSigns : MethodName := ⟨RX7, "fittingSigns", "(Ljava/lang/String;)I"⟩
abbrev cX7_readDigit : ByteArray := prog_9_method_7_code
def yX7_readDigit : MethodName := ⟨RX7, "readDigit", "()I"⟩
abbrev cX7_accepts : ByteArray := prog_9_method_8_code
def yX7_accepts : MethodName := ⟨RX7, "accepts", "(C)Z"⟩
abbrev cX7_signAt : ByteArray := prog_9_method_9_code
def yX7_signAt : MethodName := ⟨RX7, "signAt", "(I)I"⟩
def RX8 : String := "TubHire$Tub"
def TX8 : u_T := fun k => match k with
  | 0 => ("TubHire$Tub", "size", "I", false)
  | 1 => ("TubHire$Tub", "tent", "I", false)
  | 2 => ("TubHire$Tub", "torn", "I", false)
  | 3 => ("TubHire$Tub", "litres", "I", false)
  | 4 => ("TubHire$Tub", "warmth", "I", false)
  | 5 => ("TubHire$Tub", "isDirty", "Z", false)
  | _ => ("TubHire$Tub", "baths", "I", false)
def tyX8 : Nat → FieldType := fun k => match k with
  | 0 => .int
  | 1 => .int
  | 2 => .int
  | 3 => .int
  | 4 => .int
  | 5 => .boolean
  | _ => .int
abbrev wsX80 : List Cond := u_ws RX8 TX8 7
theorem nmX8 : ∀ a, a < 7 → ∀ b, b < 7 → a ≠ b → (TX8 a).2.1 ≠ (TX8 b).2.1 := by decide +kernel
theorem tyX8_ok : ∀ k, k < 7 → parseFieldDescriptor (TX8 k).2.2.1 = some (tyX8 k) := by decide +kernel
abbrev cX8_init : ByteArray := prog_10_method_1_code
def yX8_init : MethodName := ⟨RX8, "<init>", "()V"⟩
abbrev cX8_hasSize : ByteArray := prog_10_method_2_code
def yX8_hasSize : MethodName := ⟨RX8, "hasSize", "(I)Z"⟩
abbrev cX8_hasSeam : ByteArray := prog_10_method_3_code
def yX8_hasSeam : MethodName := ⟨RX8, "hasSeam", "(I)Z"⟩
abbrev cX8_degreesAnHour : ByteArray := prog_10_method_4_code
def yX8_degreesAnHour : MethodName := ⟨RX8, "degreesAnHour", "(I)I"⟩
abbrev cX8_heated : ByteArray := prog_10_method_5_code
def yX8_heated : MethodName := ⟨RX8, "heated", "(II)I"⟩
abbrev cX8_copyFrom : ByteArray := prog_10_method_6_code
def yX8_copyFrom : MethodName := ⟨RX8, "copyFrom", "(LTubHire$Tub;)V"⟩
abbrev cX8_told : ByteArray := prog_10_method_7_code
def yX8_told : MethodName := ⟨RX8, "told", "(I)I"⟩
abbrev cX8_isTorn : ByteArray := prog_10_method_8_code
def yX8_isTorn : MethodName := ⟨RX8, "isTorn", "(I)Z"⟩
abbrev cX8_tornFrom : ByteArray := prog_10_method_9_code
def yX8_tornFrom : MethodName := ⟨RX8, "tornFrom", "(I)I"⟩
abbrev cX8_tornSeams : ByteArray := prog_10_method_10_code
def yX8_tornSeams : MethodName := ⟨RX8, "tornSeams", "()I"⟩
abbrev cX8_fullLitres : ByteArray := prog_10_method_11_code
def yX8_fullLitres : MethodName := ⟨RX8, "fullLitres", "()I"⟩
abbrev cX8_lose : ByteArray := prog_10_method_12_code
def yX8_lose : MethodName := ⟨RX8, "lose", "(I)V"⟩
abbrev cX8_drain : ByteArray := prog_10_method_13_code
def yX8_drain : MethodName := ⟨RX8, "drain", "(I)V"⟩
abbrev cX8_fill : ByteArray := prog_10_method_14_code
def yX8_fill : MethodName := ⟨RX8, "fill", "()V"⟩
abbrev cX8_empty : ByteArray := prog_10_method_15_code
def yX8_empty : MethodName := ⟨RX8, "empty", "()V"⟩
def RX9 : String := "TubHire"
def TX9 : u_T := fun k => match k with
  | 0 => ("TubHire", "store", "LTubHire$Store;", true)
  | 1 => ("TubHire", "ahead", "LTubHire$Store;", true)
  | 2 => ("TubHire", "saved", "LTubHire$Store;", true)
  | 3 => ("TubHire", "past", "LTubHire$Past;", true)
  | 4 => ("TubHire", "text", "LTubHire$Text;", true)
  | 5 => ("TubHire", "written", "Ljava/lang/StringBuilder;", true)
  | 6 => ("TubHire", "isSaved", "Z", false)
  | _ => ("TubHire", "keptFault", "I", false)
def tyX9 : Nat → FieldType := fun k => match k with
  | 0 => .object "TubHire$Store"
  | 1 => .object "TubHire$Store"
  | 2 => .object "TubHire$Store"
  | 3 => .object "TubHire$Past"
  | 4 => .object "TubHire$Text"
  | 5 => .object "java/lang/StringBuilder"
  | 6 => .boolean
  | _ => .int
abbrev wsX90 : List Cond := u_ws RX9 TX9 8
theorem nmX9 : ∀ a, a < 8 → ∀ b, b < 8 → a ≠ b → (TX9 a).2.1 ≠ (TX9 b).2.1 := by decide +kernel
theorem tyX9_ok : ∀ k, k < 8 → parseFieldDescriptor (TX9 k).2.2.1 = some (tyX9 k) := by decide +kernel
abbrev cX9_init : ByteArray := prog_1_method_1_code
def yX9_init : MethodName := ⟨RX9, "<init>", "()V"⟩
abbrev cX9_tub : ByteArray := prog_1_method_2_code
def yX9_tub : MethodName := ⟨RX9, "tub", "(I)I"⟩
abbrev cX9_tubOf : ByteArray := prog_1_method_3_code
def yX9_tubOf : MethodName := ⟨RX9, "tubOf", "(II)I"⟩
abbrev cX9_torn : ByteArray := prog_1_method_4_code
def yX9_torn : MethodName := ⟨RX9, "torn", "(II)I"⟩
abbrev cX9_tear : ByteArray := prog_1_method_5_code
def yX9_tear : MethodName := ⟨RX9, "tear", "(II)I"⟩
abbrev cX9_mend : ByteArray := prog_1_method_6_code
def yX9_mend : MethodName := ⟨RX9, "mend", "(II)I"⟩
abbrev cX9_bestTub : ByteArray := prog_1_method_7_code
def yX9_bestTub : MethodName := ⟨RX9, "bestTub", "()I"⟩
abbrev cX9_out : ByteArray := prog_1_method_8_code
def yX9_out : MethodName := ⟨RX9, "out", "(II)I"⟩
abbrev cX9_back : ByteArray := prog_1_method_9_code
def yX9_back : MethodName := ⟨RX9, "back", "(I)I"⟩
abbrev cX9_tent : ByteArray := prog_1_method_10_code
def yX9_tent : MethodName := ⟨RX9, "tent", "(I)I"⟩
abbrev cX9_tentOf : ByteArray := prog_1_method_11_code
def yX9_tentOf : MethodName := ⟨RX9, "tentOf", "(II)I"⟩
abbrev cX9_waiting : ByteArray := prog_1_method_12_code
def yX9_waiting : MethodName := ⟨RX9, "waiting", "(II)I"⟩
abbrev cX9_join : ByteArray := prog_1_method_13_code
def yX9_join : MethodName := ⟨RX9, "join", "(I)I"⟩
abbrev cX9_heater : ByteArray := prog_1_method_14_code
def yX9_heater : MethodName := ⟨RX9, "heater", "()I"⟩
abbrev cX9_heaterOf : ByteArray := prog_1_method_15_code
def yX9_heaterOf : MethodName := ⟨RX9, "heaterOf", "(IZ)I"⟩
abbrev cX9_heat : ByteArray := prog_1_method_16_code
def yX9_heat : MethodName := ⟨RX9, "heat", "(II)I"⟩
abbrev cX9_cold : ByteArray := prog_1_method_17_code
def yX9_cold : MethodName := ⟨RX9, "cold", "(I)I"⟩
abbrev cX9_gas : ByteArray := prog_1_method_18_code
def yX9_gas : MethodName := ⟨RX9, "gas", "(II)I"⟩
abbrev cX9_wash : ByteArray := prog_1_method_19_code
def yX9_wash : MethodName := ⟨RX9, "wash", "(I)I"⟩
abbrev cX9_soap : ByteArray := prog_1_method_20_code
def yX9_soap : MethodName := ⟨RX9, "soap", "(I)I"⟩
abbrev cX9_pass : ByteArray := prog_1_method_21_code
def yX9_pass : MethodName := ⟨RX9, "pass", "(I)I"⟩
abbrev cX9_heatsIn : ByteArray := prog_1_method_22_code
def yX9_heatsIn : MethodName := ⟨RX9, "heatsIn", "(II)I"⟩
abbrev cX9_heatsAgain : ByteArray := prog_1_method_23_code
def yX9_heatsAgain : MethodName := ⟨RX9, "heatsAgain", "(II)I"⟩
abbrev cX9_bathesIn : ByteArray := prog_1_method_24_code
def yX9_bathesIn : MethodName := ⟨RX9, "bathesIn", "(I)I"⟩
abbrev cX9_line : ByteArray := prog_1_method_25_code
def yX9_line : MethodName := ⟨RX9, "line", "(I)I"⟩
abbrev cX9_character : ByteArray := prog_1_method_26_code
def yX9_character : MethodName := ⟨RX9, "character", "(I)C"⟩
abbrev cX9_number : ByteArray := prog_1_method_27_code
def yX9_number : MethodName := ⟨RX9, "number", "(I)I"⟩
abbrev cX9_towels : ByteArray := prog_1_method_28_code
def yX9_towels : MethodName := ⟨RX9, "towels", "()I"⟩
abbrev cX9_meanWarmth : ByteArray := prog_1_method_29_code
def yX9_meanWarmth : MethodName := ⟨RX9, "meanWarmth", "()D"⟩
abbrev cX9_bathedShare : ByteArray := prog_1_method_30_code
def yX9_bathedShare : MethodName := ⟨RX9, "bathedShare", "()F"⟩
abbrev cX9_feed : ByteArray := prog_1_method_31_code
def yX9_feed : MethodName := ⟨RX9, "feed", "(C)I"⟩
abbrev cX9_read : ByteArray := prog_1_method_32_code
def yX9_read : MethodName := ⟨RX9, "read", "()I"⟩
abbrev cX9_refusal : ByteArray := prog_1_method_34_code
def yX9_refusal : MethodName := ⟨RX9, "refusal", "(Z)I"⟩
abbrev cX9_undo : ByteArray := prog_1_method_35_code
def yX9_undo : MethodName := ⟨RX9, "undo", "()I"⟩
abbrev cX9_settled : ByteArray := prog_1_method_38_code
def yX9_settled : MethodName := ⟨RX9, "settled", "(I)I"⟩
abbrev cX9_requireWater : ByteArray := prog_1_method_39_code
def yX9_requireWater : MethodName := ⟨RX9, "requireWater", "(II)V"⟩
abbrev cX9_hoursUntilBath : ByteArray := prog_1_method_40_code
def yX9_hoursUntilBath : MethodName := ⟨RX9, "hoursUntilBath", "(I)I"⟩
abbrev cX9_appendTub : ByteArray := prog_1_method_41_code
def yX9_appendTub : MethodName := ⟨RX9, "appendTub", "(I)V"⟩
abbrev cX9_carriedOut : ByteArray := prog_1_method_42_code
def yX9_carriedOut : MethodName := ⟨RX9, "carriedOut", "()I"⟩
abbrev cX9_outcomeOf : ByteArray := prog_1_method_43_code
def yX9_outcomeOf : MethodName := ⟨RX9, "outcomeOf", "(LTubHire$Command;II)I"⟩
def RX10 : String := "TubHireModel"
def TX10 : u_T := fun k => match k with
  | _ => ("", "", "", false)
def tyX10 : Nat → FieldType := fun k => match k with
  | _ => .int
abbrev wsX100 : List Cond := u_ws RX10 TX10 0
theorem nmX10 : ∀ a, a < 0 → ∀ b, b < 0 → a ≠ b → (TX10 a).2.1 ≠ (TX10 b).2.1 := by decide +kernel
theorem tyX10_ok : ∀ k, k < 0 → parseFieldDescriptor (TX10 k).2.2.1 = some (tyX10 k) := by decide +kernel
def RJx145de : String := "java/io/Serializable"
def TJx145de : u_T := fun k => match k with
  | _ => ("", "", "", false)
def tyJx145de : Nat → FieldType := fun k => match k with
  | _ => .int
abbrev wsJx145de0 : List Cond := u_ws RJx145de TJx145de 0
theorem nmJx145de : ∀ a, a < 0 → ∀ b, b < 0 → a ≠ b → (TJx145de a).2.1 ≠ (TJx145de b).2.1 := by decide +kernel
theorem tyJx145de_ok : ∀ k, k < 0 → parseFieldDescriptor (TJx145de k).2.2.1 = some (tyJx145de k) := by decide +kernel
def RJ5 : String := "java/lang/AbstractStringBuilder"
def TJ5 : u_T := fun k => match k with
  | _ => ("", "", "", false)
def tyJ5 : Nat → FieldType := fun k => match k with
  | _ => .int
abbrev wsJ50 : List Cond := u_ws RJ5 TJ5 0
theorem nmJ5 : ∀ a, a < 0 → ∀ b, b < 0 → a ≠ b → (TJ5 a).2.1 ≠ (TJ5 b).2.1 := by decide +kernel
theorem tyJ5_ok : ∀ k, k < 0 → parseFieldDescriptor (TJ5 k).2.2.1 = some (tyJ5 k) := by decide +kernel
abbrev cJ5_init_d00df : ByteArray := prog_14_method_2_code
def yJ5_init_d00df : MethodName := ⟨RJ5, "<init>", "(I)V"⟩
abbrev cJ5_length_8abf5 : ByteArray := prog_14_method_6_code
def yJ5_length_8abf5 : MethodName := ⟨RJ5, "length", "()I"⟩
abbrev cJ5_ensureCapacityInternal_d00df : ByteArray := prog_14_method_9_code
def yJ5_ensureCapacityInternal_d00df : MethodName := ⟨RJ5, "ensureCapacityInternal", "(I)V"⟩
abbrev cJ5_newCapacity_0f7a4 : ByteArray := prog_14_method_10_code
def yJ5_newCapacity_0f7a4 : MethodName := ⟨RJ5, "newCapacity", "(I)I"⟩
abbrev cJ5_inflate_da8c8 : ByteArray := prog_14_method_11_code
def yJ5_inflate_da8c8 : MethodName := ⟨RJ5, "inflate", "()V"⟩
abbrev cJ5_setLength_d00df : ByteArray := prog_14_method_13_code
def yJ5_setLength_d00df : MethodName := ⟨RJ5, "setLength", "(I)V"⟩
abbrev cJ5_charAt_5068e : ByteArray := prog_14_method_14_code
def yJ5_charAt_5068e : MethodName := ⟨RJ5, "charAt", "(I)C"⟩
abbrev cJ5_append_cf1ce : ByteArray := prog_14_method_22_code
def yJ5_append_cf1ce : MethodName := ⟨RJ5, "append", "(Ljava/lang/String;)Ljava/lang/AbstractStringBuilder;"⟩
abbrev cJ5_appendNull_278bc : ByteArray := prog_14_method_26_code
def yJ5_appendNull_278bc : MethodName := ⟨RJ5, "appendNull", "()Ljava/lang/AbstractStringBuilder;"⟩
abbrev cJ5_append_3fe6f : ByteArray := prog_14_method_31_code
def yJ5_append_3fe6f : MethodName := ⟨RJ5, "append", "(C)Ljava/lang/AbstractStringBuilder;"⟩
abbrev cJ5_append_c97b9 : ByteArray := prog_14_method_32_code
def yJ5_append_c97b9 : MethodName := ⟨RJ5, "append", "(I)Ljava/lang/AbstractStringBuilder;"⟩
abbrev cJ5_getValue_6d5f1 : ByteArray := prog_14_method_64_code
def yJ5_getValue_6d5f1 : MethodName := ⟨RJ5, "getValue", "()[B"⟩
abbrev cJ5_isLatin1_aae02 : ByteArray := prog_14_method_68_code
def yJ5_isLatin1_aae02 : MethodName := ⟨RJ5, "isLatin1", "()Z"⟩
abbrev cJ5_inflateIfNeededFor_a7421 : ByteArray := prog_14_method_71_code
def yJ5_inflateIfNeededFor_a7421 : MethodName := ⟨RJ5, "inflateIfNeededFor", "(Ljava/lang/String;)V"⟩
abbrev cJ5_putStringAt_47b60 : ByteArray := prog_14_method_73_code
def yJ5_putStringAt_47b60 : MethodName := ⟨RJ5, "putStringAt", "(ILjava/lang/String;)V"⟩
def RJx2cfe8 : String := "java/lang/Appendable"
def TJx2cfe8 : u_T := fun k => match k with
  | _ => ("", "", "", false)
def tyJx2cfe8 : Nat → FieldType := fun k => match k with
  | _ => .int
abbrev wsJx2cfe80 : List Cond := u_ws RJx2cfe8 TJx2cfe8 0
theorem nmJx2cfe8 : ∀ a, a < 0 → ∀ b, b < 0 → a ≠ b → (TJx2cfe8 a).2.1 ≠ (TJx2cfe8 b).2.1 := by decide +kernel
theorem tyJx2cfe8_ok : ∀ k, k < 0 → parseFieldDescriptor (TJx2cfe8 k).2.2.1 = some (tyJx2cfe8 k) := by decide +kernel
def RJx00060 : String := "java/lang/ArrayIndexOutOfBoundsException"
def TJx00060 : u_T := fun k => match k with
  | 0 => ("java/lang/Throwable", "backtrace", "Ljava/lang/Object;", false)
  | 1 => ("java/lang/Throwable", "detailMessage", "Ljava/lang/String;", false)
  | 2 => ("java/lang/Throwable", "cause", "Ljava/lang/Throwable;", false)
  | 3 => ("java/lang/Throwable", "stackTrace", "[Ljava/lang/StackTraceElement;", false)
  | 4 => ("java/lang/Throwable", "depth", "I", false)
  | _ => ("java/lang/Throwable", "suppressedExceptions", "Ljava/util/List;", false)
def tyJx00060 : Nat → FieldType := fun k => match k with
  | 0 => .object "java/lang/Object"
  | 1 => .object "java/lang/String"
  | 2 => .object "java/lang/Throwable"
  | 3 => .array (.object "java/lang/StackTraceElement")
  | 4 => .int
  | _ => .object "java/util/List"
abbrev wsJx000600 : List Cond := u_ws RJx00060 TJx00060 6
theorem nmJx00060 : ∀ a, a < 6 → ∀ b, b < 6 → a ≠ b → (TJx00060 a).2.1 ≠ (TJx00060 b).2.1 := by decide +kernel
theorem tyJx00060_ok : ∀ k, k < 6 → parseFieldDescriptor (TJx00060 k).2.2.1 = some (tyJx00060 k) := by decide +kernel
abbrev cJx00060_init_a7421 : ByteArray := prog_17_method_2_code
def yJx00060_init_a7421 : MethodName := ⟨RJx00060, "<init>", "(Ljava/lang/String;)V"⟩
abbrev cJx00060_init_d00df : ByteArray := prog_17_method_3_code
def yJx00060_init_d00df : MethodName := ⟨RJx00060, "<init>", "(I)V"⟩
def RJx9f9b0 : String := "java/lang/CharSequence"
def TJx9f9b0 : u_T := fun k => match k with
  | _ => ("", "", "", false)
def tyJx9f9b0 : Nat → FieldType := fun k => match k with
  | _ => .int
abbrev wsJx9f9b00 : List Cond := u_ws RJx9f9b0 TJx9f9b0 0
theorem nmJx9f9b0 : ∀ a, a < 0 → ∀ b, b < 0 → a ≠ b → (TJx9f9b0 a).2.1 ≠ (TJx9f9b0 b).2.1 := by decide +kernel
theorem tyJx9f9b0_ok : ∀ k, k < 0 → parseFieldDescriptor (TJx9f9b0 k).2.2.1 = some (tyJx9f9b0 k) := by decide +kernel
def RJx8e188 : String := "java/lang/Cloneable"
def TJx8e188 : u_T := fun k => match k with
  | _ => ("", "", "", false)
def tyJx8e188 : Nat → FieldType := fun k => match k with
  | _ => .int
abbrev wsJx8e1880 : List Cond := u_ws RJx8e188 TJx8e188 0
theorem nmJx8e188 : ∀ a, a < 0 → ∀ b, b < 0 → a ≠ b → (TJx8e188 a).2.1 ≠ (TJx8e188 b).2.1 := by decide +kernel
theorem tyJx8e188_ok : ∀ k, k < 0 → parseFieldDescriptor (TJx8e188 k).2.2.1 = some (tyJx8e188 k) := by decide +kernel
def RJxb160c : String := "java/lang/Comparable"
def TJxb160c : u_T := fun k => match k with
  | _ => ("", "", "", false)
def tyJxb160c : Nat → FieldType := fun k => match k with
  | _ => .int
abbrev wsJxb160c0 : List Cond := u_ws RJxb160c TJxb160c 0
theorem nmJxb160c : ∀ a, a < 0 → ∀ b, b < 0 → a ≠ b → (TJxb160c a).2.1 ≠ (TJxb160c b).2.1 := by decide +kernel
theorem tyJxb160c_ok : ∀ k, k < 0 → parseFieldDescriptor (TJxb160c k).2.2.1 = some (tyJxb160c k) := by decide +kernel
def RJx29ce0 : String := "java/lang/Enum"
def TJx29ce0 : u_T := fun k => match k with
  | _ => ("", "", "", false)
def tyJx29ce0 : Nat → FieldType := fun k => match k with
  | _ => .int
abbrev wsJx29ce00 : List Cond := u_ws RJx29ce0 TJx29ce0 0
theorem nmJx29ce0 : ∀ a, a < 0 → ∀ b, b < 0 → a ≠ b → (TJx29ce0 a).2.1 ≠ (TJx29ce0 b).2.1 := by decide +kernel
theorem tyJx29ce0_ok : ∀ k, k < 0 → parseFieldDescriptor (TJx29ce0 k).2.2.1 = some (tyJx29ce0 k) := by decide +kernel
abbrev cJx29ce0_ordinal_8abf5 : ByteArray := prog_21_method_2_code
def yJx29ce0_ordinal_8abf5 : MethodName := ⟨RJx29ce0, "ordinal", "()I"⟩
def RJ6 : String := "java/lang/Integer"
def TJ6 : u_T := fun k => match k with
  | _ => ("", "", "", false)
def tyJ6 : Nat → FieldType := fun k => match k with
  | _ => .int
abbrev wsJ60 : List Cond := u_ws RJ6 TJ6 0
theorem nmJ6 : ∀ a, a < 0 → ∀ b, b < 0 → a ≠ b → (TJ6 a).2.1 ≠ (TJ6 b).2.1 := by decide +kernel
theorem tyJ6_ok : ∀ k, k < 0 → parseFieldDescriptor (TJ6 k).2.2.1 = some (tyJ6 k) := by decide +kernel
abbrev cJ6_getChars_ba4f3 : ByteArray := prog_26_method_12_code
def yJ6_getChars_ba4f3 : MethodName := ⟨RJ6, "getChars", "(II[B)I"⟩
abbrev cJ6_stringSize_0f7a4 : ByteArray := prog_26_method_13_code
def yJ6_stringSize_0f7a4 : MethodName := ⟨RJ6, "stringSize", "(I)I"⟩
abbrev cJ6_bitCount_0f7a4 : ByteArray := prog_26_method_49_code
def yJ6_bitCount_0f7a4 : MethodName := ⟨RJ6, "bitCount", "(I)I"⟩
def RJ9 : String := "java/lang/Math"
def TJ9 : u_T := fun k => match k with
  | _ => ("", "", "", false)
def tyJ9 : Nat → FieldType := fun k => match k with
  | _ => .int
abbrev wsJ90 : List Cond := u_ws RJ9 TJ9 0
theorem nmJ9 : ∀ a, a < 0 → ∀ b, b < 0 → a ≠ b → (TJ9 a).2.1 ≠ (TJ9 b).2.1 := by decide +kernel
theorem tyJ9_ok : ∀ k, k < 0 → parseFieldDescriptor (TJ9 k).2.2.1 = some (tyJ9 k) := by decide +kernel
abbrev cJ9_floorMod_7cf53 : ByteArray := prog_27_method_50_code
def yJ9_floorMod_7cf53 : MethodName := ⟨RJ9, "floorMod", "(II)I"⟩
abbrev cJ9_max_7cf53 : ByteArray := prog_27_method_65_code
def yJ9_max_7cf53 : MethodName := ⟨RJ9, "max", "(II)I"⟩
abbrev cJ9_min_7cf53 : ByteArray := prog_27_method_69_code
def yJ9_min_7cf53 : MethodName := ⟨RJ9, "min", "(II)I"⟩
def RJxd2413 : String := "java/lang/Number"
def TJxd2413 : u_T := fun k => match k with
  | _ => ("", "", "", false)
def tyJxd2413 : Nat → FieldType := fun k => match k with
  | _ => .int
abbrev wsJxd24130 : List Cond := u_ws RJxd2413 TJxd2413 0
theorem nmJxd2413 : ∀ a, a < 0 → ∀ b, b < 0 → a ≠ b → (TJxd2413 a).2.1 ≠ (TJxd2413 b).2.1 := by decide +kernel
theorem tyJxd2413_ok : ∀ k, k < 0 → parseFieldDescriptor (TJxd2413 k).2.2.1 = some (tyJxd2413 k) := by decide +kernel
def RJ0 : String := "java/lang/String"
def TJ0 : u_T := fun k => match k with
  | 0 => ("java/lang/String", "value", "[B", true)
  | 1 => ("java/lang/String", "coder", "B", true)
  | 2 => ("java/lang/String", "hash", "I", false)
  | _ => ("java/lang/String", "hashIsZero", "Z", false)
def tyJ0 : Nat → FieldType := fun k => match k with
  | 0 => .array .byte
  | 1 => .byte
  | 2 => .int
  | _ => .boolean
abbrev wsJ00 : List Cond := u_ws RJ0 TJ0 4
theorem nmJ0 : ∀ a, a < 4 → ∀ b, b < 4 → a ≠ b → (TJ0 a).2.1 ≠ (TJ0 b).2.1 := by decide +kernel
theorem tyJ0_ok : ∀ k, k < 4 → parseFieldDescriptor (TJ0 k).2.2.1 = some (tyJ0 k) := by decide +kernel
abbrev cJ0_init_81219 : ByteArray := prog_30_method_53_code
def yJ0_init_81219 : MethodName := ⟨RJ0, "<init>", "(Ljava/lang/StringBuilder;)V"⟩
abbrev cJ0_length_8abf5 : ByteArray := prog_30_method_54_code
def yJ0_length_8abf5 : MethodName := ⟨RJ0, "length", "()I"⟩
abbrev cJ0_charAt_5068e : ByteArray := prog_30_method_56_code
def yJ0_charAt_5068e : MethodName := ⟨RJ0, "charAt", "(I)C"⟩
abbrev cJ0_getBytes_840e7 : ByteArray := prog_30_method_147_code
def yJ0_getBytes_840e7 : MethodName := ⟨RJ0, "getBytes", "([BIB)V"⟩
abbrev cJ0_init_db425 : ByteArray := prog_30_method_150_code
def yJ0_init_db425 : MethodName := ⟨RJ0, "<init>", "(Ljava/lang/AbstractStringBuilder;Ljava/lang/Void;)V"⟩
abbrev cJ0_coder_7d493 : ByteArray := prog_30_method_152_code
def yJ0_coder_7d493 : MethodName := ⟨RJ0, "coder", "()B"⟩
abbrev cJ0_isLatin1_aae02 : ByteArray := prog_30_method_154_code
def yJ0_isLatin1_aae02 : MethodName := ⟨RJ0, "isLatin1", "()Z"⟩
abbrev cJ0_checkIndex_df160 : ByteArray := prog_30_method_155_code
def yJ0_checkIndex_df160 : MethodName := ⟨RJ0, "checkIndex", "(II)V"⟩
abbrev cJ0_checkBoundsOffCount_cabcc : ByteArray := prog_30_method_157_code
def yJ0_checkBoundsOffCount_cabcc : MethodName := ⟨RJ0, "checkBoundsOffCount", "(III)I"⟩
abbrev cJ0_checkBoundsBeginEnd_23922 : ByteArray := prog_30_method_158_code
def yJ0_checkBoundsBeginEnd_23922 : MethodName := ⟨RJ0, "checkBoundsBeginEnd", "(III)V"⟩
def RJ4 : String := "java/lang/StringBuilder"
def TJ4 : u_T := fun k => match k with
  | 0 => ("java/lang/AbstractStringBuilder", "value", "[B", false)
  | 1 => ("java/lang/AbstractStringBuilder", "coder", "B", false)
  | 2 => ("java/lang/AbstractStringBuilder", "maybeLatin1", "Z", false)
  | _ => ("java/lang/AbstractStringBuilder", "count", "I", false)
def tyJ4 : Nat → FieldType := fun k => match k with
  | 0 => .array .byte
  | 1 => .byte
  | 2 => .boolean
  | _ => .int
abbrev wsJ40 : List Cond := u_ws RJ4 TJ4 4
theorem nmJ4 : ∀ a, a < 4 → ∀ b, b < 4 → a ≠ b → (TJ4 a).2.1 ≠ (TJ4 b).2.1 := by decide +kernel
theorem tyJ4_ok : ∀ k, k < 4 → parseFieldDescriptor (TJ4 k).2.2.1 = some (tyJ4 k) := by decide +kernel
abbrev cJ4_init_da8c8 : ByteArray := prog_31_method_1_code
def yJ4_init_da8c8 : MethodName := ⟨RJ4, "<init>", "()V"⟩
abbrev cJ4_append_15ec4 : ByteArray := prog_31_method_7_code
def yJ4_append_15ec4 : MethodName := ⟨RJ4, "append", "(Ljava/lang/String;)Ljava/lang/StringBuilder;"⟩
abbrev cJ4_append_cf468 : ByteArray := prog_31_method_14_code
def yJ4_append_cf468 : MethodName := ⟨RJ4, "append", "(C)Ljava/lang/StringBuilder;"⟩
abbrev cJ4_append_bf812 : ByteArray := prog_31_method_15_code
def yJ4_append_bf812 : MethodName := ⟨RJ4, "append", "(I)Ljava/lang/StringBuilder;"⟩
abbrev cJ4_toString_0e30d : ByteArray := prog_31_method_42_code
def yJ4_toString_0e30d : MethodName := ⟨RJ4, "toString", "()Ljava/lang/String;"⟩
abbrev cJ4_charAt_5068e : ByteArray := prog_31_method_88_code
def yJ4_charAt_5068e : MethodName := ⟨RJ4, "charAt", "(I)C"⟩
abbrev cJ4_setLength_d00df : ByteArray := prog_31_method_89_code
def yJ4_setLength_d00df : MethodName := ⟨RJ4, "setLength", "(I)V"⟩
abbrev cJ4_length_8abf5 : ByteArray := prog_31_method_93_code
def yJ4_length_8abf5 : MethodName := ⟨RJ4, "length", "()I"⟩
def RJx7c733 : String := "java/lang/StringIndexOutOfBoundsException"
def TJx7c733 : u_T := fun k => match k with
  | 0 => ("java/lang/Throwable", "backtrace", "Ljava/lang/Object;", false)
  | 1 => ("java/lang/Throwable", "detailMessage", "Ljava/lang/String;", false)
  | 2 => ("java/lang/Throwable", "cause", "Ljava/lang/Throwable;", false)
  | 3 => ("java/lang/Throwable", "stackTrace", "[Ljava/lang/StackTraceElement;", false)
  | 4 => ("java/lang/Throwable", "depth", "I", false)
  | _ => ("java/lang/Throwable", "suppressedExceptions", "Ljava/util/List;", false)
def tyJx7c733 : Nat → FieldType := fun k => match k with
  | 0 => .object "java/lang/Object"
  | 1 => .object "java/lang/String"
  | 2 => .object "java/lang/Throwable"
  | 3 => .array (.object "java/lang/StackTraceElement")
  | 4 => .int
  | _ => .object "java/util/List"
abbrev wsJx7c7330 : List Cond := u_ws RJx7c733 TJx7c733 6
theorem nmJx7c733 : ∀ a, a < 6 → ∀ b, b < 6 → a ≠ b → (TJx7c733 a).2.1 ≠ (TJx7c733 b).2.1 := by decide +kernel
theorem tyJx7c733_ok : ∀ k, k < 6 → parseFieldDescriptor (TJx7c733 k).2.2.1 = some (tyJx7c733 k) := by decide +kernel
abbrev cJx7c733_init_d00df : ByteArray := prog_32_method_3_code
def yJx7c733_init_d00df : MethodName := ⟨RJx7c733, "<init>", "(I)V"⟩
def RJ1 : String := "java/lang/StringLatin1"
def TJ1 : u_T := fun k => match k with
  | _ => ("", "", "", false)
def tyJ1 : Nat → FieldType := fun k => match k with
  | _ => .int
abbrev wsJ10 : List Cond := u_ws RJ1 TJ1 0
theorem nmJ1 : ∀ a, a < 0 → ∀ b, b < 0 → a ≠ b → (TJ1 a).2.1 ≠ (TJ1 b).2.1 := by decide +kernel
theorem tyJ1_ok : ∀ k, k < 0 → parseFieldDescriptor (TJ1 k).2.2.1 = some (tyJ1 k) := by decide +kernel
abbrev cJ1_charAt_3b067 : ByteArray := prog_33_method_2_code
def yJ1_charAt_3b067 : MethodName := ⟨RJ1, "charAt", "([BI)C"⟩
abbrev cJ1_canEncode_fc78d : ByteArray := prog_33_method_3_code
def yJ1_canEncode_fc78d : MethodName := ⟨RJ1, "canEncode", "(C)Z"⟩
abbrev cJ1_fillNull_b72d1 : ByteArray := prog_33_method_48_code
def yJ1_fillNull_b72d1 : MethodName := ⟨RJ1, "fillNull", "([BII)V"⟩
abbrev cJ1_inflate_0e8fd : ByteArray := prog_33_method_50_code
def yJ1_inflate_0e8fd : MethodName := ⟨RJ1, "inflate", "([BI[BII)V"⟩
def RJ2 : String := "java/lang/StringUTF16"
def TJ2 : u_T := fun k => match k with
  | _ => ("", "", "", false)
def tyJ2 : Nat → FieldType := fun k => match k with
  | _ => .int
abbrev wsJ20 : List Cond := u_ws RJ2 TJ2 0
theorem nmJ2 : ∀ a, a < 0 → ∀ b, b < 0 → a ≠ b → (TJ2 a).2.1 ≠ (TJ2 b).2.1 := by decide +kernel
theorem tyJ2_ok : ∀ k, k < 0 → parseFieldDescriptor (TJ2 k).2.2.1 = some (tyJ2 k) := by decide +kernel
abbrev cJ2_newBytesFor_77867 : ByteArray := prog_34_method_2_code
def yJ2_newBytesFor_77867 : MethodName := ⟨RJ2, "newBytesFor", "(I)[B"⟩
abbrev cJ2_newBytesLength_0f7a4 : ByteArray := prog_34_method_3_code
def yJ2_newBytesLength_0f7a4 : MethodName := ⟨RJ2, "newBytesLength", "(I)I"⟩
abbrev cJ2_putChar_b72d1 : ByteArray := prog_34_method_4_code
def yJ2_putChar_b72d1 : MethodName := ⟨RJ2, "putChar", "([BII)V"⟩
abbrev cJ2_getChar_3b067 : ByteArray := prog_34_method_5_code
def yJ2_getChar_3b067 : MethodName := ⟨RJ2, "getChar", "([BI)C"⟩
abbrev cJ2_length_9d52b : ByteArray := prog_34_method_6_code
def yJ2_length_9d52b : MethodName := ⟨RJ2, "length", "([B)I"⟩
abbrev cJ2_coderFromArrayLen_85cad : ByteArray := prog_34_method_15_code
def yJ2_coderFromArrayLen_85cad : MethodName := ⟨RJ2, "coderFromArrayLen", "([BI)B"⟩
abbrev cJ2_compress_39247 : ByteArray := prog_34_method_17_code
def yJ2_compress_39247 : MethodName := ⟨RJ2, "compress", "([BII)[B"⟩
abbrev cJ2_compress_5af95 : ByteArray := prog_34_method_22_code
def yJ2_compress_5af95 : MethodName := ⟨RJ2, "compress", "([BI[BII)I"⟩
abbrev cJ2_fillNull_b72d1 : ByteArray := prog_34_method_70_code
def yJ2_fillNull_b72d1 : MethodName := ⟨RJ2, "fillNull", "([BII)V"⟩
abbrev cJ2_putCharSB_b72d1 : ByteArray := prog_34_method_71_code
def yJ2_putCharSB_b72d1 : MethodName := ⟨RJ2, "putCharSB", "([BII)V"⟩
abbrev cJ2_getChars_46870 : ByteArray := prog_34_method_77_code
def yJ2_getChars_46870 : MethodName := ⟨RJ2, "getChars", "(III[B)I"⟩
abbrev cJ2_putCharsAt_cd4e5 : ByteArray := prog_34_method_81_code
def yJ2_putCharsAt_cd4e5 : MethodName := ⟨RJ2, "putCharsAt", "([BICCCC)I"⟩
abbrev cJ2_charAt_3b067 : ByteArray := prog_34_method_83_code
def yJ2_charAt_3b067 : MethodName := ⟨RJ2, "charAt", "([BI)C"⟩
abbrev cJ2_inflate_0e8fd : ByteArray := prog_34_method_86_code
def yJ2_inflate_0e8fd : MethodName := ⟨RJ2, "inflate", "([BI[BII)V"⟩
abbrev cJ2_getChars_ba4f3 : ByteArray := prog_34_method_89_code
def yJ2_getChars_ba4f3 : MethodName := ⟨RJ2, "getChars", "(II[B)I"⟩
abbrev cJ2_checkIndex_2214a : ByteArray := prog_34_method_91_code
def yJ2_checkIndex_2214a : MethodName := ⟨RJ2, "checkIndex", "(I[B)V"⟩
abbrev cJ2_checkBoundsBeginEnd_d044e : ByteArray := prog_34_method_93_code
def yJ2_checkBoundsBeginEnd_d044e : MethodName := ⟨RJ2, "checkBoundsBeginEnd", "(II[B)V"⟩
abbrev cJ2_checkBoundsOffCount_d044e : ByteArray := prog_34_method_94_code
def yJ2_checkBoundsOffCount_d044e : MethodName := ⟨RJ2, "checkBoundsOffCount", "(II[B)V"⟩
def RJ10 : String := "java/lang/System"
def TJ10 : u_T := fun k => match k with
  | _ => ("", "", "", false)
def tyJ10 : Nat → FieldType := fun k => match k with
  | _ => .int
abbrev wsJ100 : List Cond := u_ws RJ10 TJ10 0
theorem nmJ10 : ∀ a, a < 0 → ∀ b, b < 0 → a ≠ b → (TJ10 a).2.1 ≠ (TJ10 b).2.1 := by decide +kernel
theorem tyJ10_ok : ∀ k, k < 0 → parseFieldDescriptor (TJ10 k).2.2.1 = some (tyJ10 k) := by decide +kernel
def RJxfd54e : String := "java/lang/constant/Constable"
def TJxfd54e : u_T := fun k => match k with
  | _ => ("", "", "", false)
def tyJxfd54e : Nat → FieldType := fun k => match k with
  | _ => .int
abbrev wsJxfd54e0 : List Cond := u_ws RJxfd54e TJxfd54e 0
theorem nmJxfd54e : ∀ a, a < 0 → ∀ b, b < 0 → a ≠ b → (TJxfd54e a).2.1 ≠ (TJxfd54e b).2.1 := by decide +kernel
theorem tyJxfd54e_ok : ∀ k, k < 0 → parseFieldDescriptor (TJxfd54e k).2.2.1 = some (tyJxfd54e k) := by decide +kernel
def RJx3cf43 : String := "java/lang/constant/ConstantDesc"
def TJx3cf43 : u_T := fun k => match k with
  | _ => ("", "", "", false)
def tyJx3cf43 : Nat → FieldType := fun k => match k with
  | _ => .int
abbrev wsJx3cf430 : List Cond := u_ws RJx3cf43 TJx3cf43 0
theorem nmJx3cf43 : ∀ a, a < 0 → ∀ b, b < 0 → a ≠ b → (TJx3cf43 a).2.1 ≠ (TJx3cf43 b).2.1 := by decide +kernel
theorem tyJx3cf43_ok : ∀ k, k < 0 → parseFieldDescriptor (TJx3cf43 k).2.2.1 = some (tyJx3cf43 k) := by decide +kernel
def RJ7 : String := "java/util/Arrays"
def TJ7 : u_T := fun k => match k with
  | _ => ("", "", "", false)
def tyJ7 : Nat → FieldType := fun k => match k with
  | _ => .int
abbrev wsJ70 : List Cond := u_ws RJ7 TJ7 0
theorem nmJ7 : ∀ a, a < 0 → ∀ b, b < 0 → a ≠ b → (TJ7 a).2.1 ≠ (TJ7 b).2.1 := by decide +kernel
theorem tyJ7_ok : ∀ k, k < 0 → parseFieldDescriptor (TJ7 k).2.2.1 = some (tyJ7 k) := by decide +kernel
abbrev cJ7_rangeCheck_23922 : ByteArray := prog_40_method_30_code
def yJ7_rangeCheck_23922 : MethodName := ⟨RJ7, "rangeCheck", "(III)V"⟩
abbrev cJ7_fill_eb02e : ByteArray := prog_40_method_110_code
def yJ7_fill_eb02e : MethodName := ⟨RJ7, "fill", "([BIIB)V"⟩
abbrev cJ7_copyOf_9075b : ByteArray := prog_40_method_121_code
def yJ7_copyOf_9075b : MethodName := ⟨RJ7, "copyOf", "([BI)[B"⟩
abbrev cJ7_checkLength_df160 : ByteArray := prog_40_method_131_code
def yJ7_checkLength_df160 : MethodName := ⟨RJ7, "checkLength", "(II)V"⟩
abbrev cJ7_copyOfRange_39247 : ByteArray := prog_40_method_132_code
def yJ7_copyOfRange_39247 : MethodName := ⟨RJ7, "copyOfRange", "([BII)[B"⟩
abbrev cJ7_copyOfRangeByte_39247 : ByteArray := prog_40_method_133_code
def yJ7_copyOfRangeByte_39247 : MethodName := ⟨RJ7, "copyOfRangeByte", "([BII)[B"⟩
def RJ8 : String := "jdk/internal/util/ArraysSupport"
def TJ8 : u_T := fun k => match k with
  | _ => ("", "", "", false)
def tyJ8 : Nat → FieldType := fun k => match k with
  | _ => .int
abbrev wsJ80 : List Cond := u_ws RJ8 TJ8 0
theorem nmJ8 : ∀ a, a < 0 → ∀ b, b < 0 → a ≠ b → (TJ8 a).2.1 ≠ (TJ8 b).2.1 := by decide +kernel
theorem tyJ8_ok : ∀ k, k < 0 → parseFieldDescriptor (TJ8 k).2.2.1 = some (tyJ8 k) := by decide +kernel
abbrev cJ8_newLength_cabcc : ByteArray := prog_42_method_27_code
def yJ8_newLength_cabcc : MethodName := ⟨RJ8, "newLength", "(III)I"⟩
abbrev cJ8_hugeLength_7cf53 : ByteArray := prog_42_method_28_code
def yJ8_hugeLength_7cf53 : MethodName := ⟨RJ8, "hugeLength", "(II)I"⟩
def RJ3 : String := "jdk/internal/util/Preconditions"
def TJ3 : u_T := fun k => match k with
  | _ => ("", "", "", false)
def tyJ3 : Nat → FieldType := fun k => match k with
  | _ => .int
abbrev wsJ30 : List Cond := u_ws RJ3 TJ3 0
theorem nmJ3 : ∀ a, a < 0 → ∀ b, b < 0 → a ≠ b → (TJ3 a).2.1 ≠ (TJ3 b).2.1 := by decide +kernel
theorem tyJ3_ok : ∀ k, k < 0 → parseFieldDescriptor (TJ3 k).2.2.1 = some (tyJ3 k) := by decide +kernel
abbrev cJ3_checkIndex_8e157 : ByteArray := prog_43_method_11_code
def yJ3_checkIndex_8e157 : MethodName := ⟨RJ3, "checkIndex", "(IILjava/util/function/BiFunction;)I"⟩
abbrev cJ3_checkFromToIndex_8c36e : ByteArray := prog_43_method_12_code
def yJ3_checkFromToIndex_8c36e : MethodName := ⟨RJ3, "checkFromToIndex", "(IIILjava/util/function/BiFunction;)I"⟩
abbrev cJ3_checkFromIndexSize_8c36e : ByteArray := prog_43_method_13_code
def yJ3_checkFromIndexSize_8c36e : MethodName := ⟨RJ3, "checkFromIndexSize", "(IIILjava/util/function/BiFunction;)I"⟩
def RL : String := "TubHireLaw"
abbrev cL_cell : ByteArray := method_2_code
def yL_cell : MethodName := ⟨RL, "cell", "([II)I"⟩
abbrev cL_tub : ByteArray := method_3_code
def yL_tub : MethodName := ⟨RL, "tub", "(LTubHire;I)I"⟩
abbrev cL_tubOf : ByteArray := method_4_code
def yL_tubOf : MethodName := ⟨RL, "tubOf", "(LTubHire;II)I"⟩
abbrev cL_torn : ByteArray := method_5_code
def yL_torn : MethodName := ⟨RL, "torn", "(LTubHire;II)I"⟩
abbrev cL_tear : ByteArray := method_6_code
def yL_tear : MethodName := ⟨RL, "tear", "(LTubHire;II)I"⟩
abbrev cL_mend : ByteArray := method_7_code
def yL_mend : MethodName := ⟨RL, "mend", "(LTubHire;II)I"⟩
abbrev cL_bestTub : ByteArray := method_8_code
def yL_bestTub : MethodName := ⟨RL, "bestTub", "(LTubHire;)I"⟩
abbrev cL_out : ByteArray := method_9_code
def yL_out : MethodName := ⟨RL, "out", "(LTubHire;II)I"⟩
abbrev cL_back : ByteArray := method_10_code
def yL_back : MethodName := ⟨RL, "back", "(LTubHire;I)I"⟩
abbrev cL_tent : ByteArray := method_11_code
def yL_tent : MethodName := ⟨RL, "tent", "(LTubHire;I)I"⟩
abbrev cL_tentOf : ByteArray := method_12_code
def yL_tentOf : MethodName := ⟨RL, "tentOf", "(LTubHire;II)I"⟩
abbrev cL_waiting : ByteArray := method_13_code
def yL_waiting : MethodName := ⟨RL, "waiting", "(LTubHire;II)I"⟩
abbrev cL_join : ByteArray := method_14_code
def yL_join : MethodName := ⟨RL, "join", "(LTubHire;I)I"⟩
abbrev cL_heater : ByteArray := method_15_code
def yL_heater : MethodName := ⟨RL, "heater", "(LTubHire;)I"⟩
abbrev cL_heaterOf : ByteArray := method_16_code
def yL_heaterOf : MethodName := ⟨RL, "heaterOf", "(LTubHire;IZ)I"⟩
abbrev cL_heat : ByteArray := method_17_code
def yL_heat : MethodName := ⟨RL, "heat", "(LTubHire;II)I"⟩
abbrev cL_cold : ByteArray := method_18_code
def yL_cold : MethodName := ⟨RL, "cold", "(LTubHire;I)I"⟩
abbrev cL_gas : ByteArray := method_19_code
def yL_gas : MethodName := ⟨RL, "gas", "(LTubHire;II)I"⟩
abbrev cL_wash : ByteArray := method_20_code
def yL_wash : MethodName := ⟨RL, "wash", "(LTubHire;I)I"⟩
abbrev cL_soap : ByteArray := method_21_code
def yL_soap : MethodName := ⟨RL, "soap", "(LTubHire;I)I"⟩
abbrev cL_pass : ByteArray := method_22_code
def yL_pass : MethodName := ⟨RL, "pass", "(LTubHire;I)I"⟩
abbrev cL_heatsIn : ByteArray := method_23_code
def yL_heatsIn : MethodName := ⟨RL, "heatsIn", "(LTubHire;II)I"⟩
abbrev cL_heatsAgain : ByteArray := method_24_code
def yL_heatsAgain : MethodName := ⟨RL, "heatsAgain", "(LTubHire;II)I"⟩
abbrev cL_bathesIn : ByteArray := method_25_code
def yL_bathesIn : MethodName := ⟨RL, "bathesIn", "(LTubHire;I)I"⟩
abbrev cL_feed : ByteArray := method_26_code
def yL_feed : MethodName := ⟨RL, "feed", "(LTubHire;C)I"⟩
abbrev cL_reads : ByteArray := method_27_code
def yL_reads : MethodName := ⟨RL, "reads", "(LTubHire;)I"⟩
abbrev cL_read : ByteArray := method_28_code
def yL_read : MethodName := ⟨RL, "read", "(LTubHire;Ljava/lang/String;)I"⟩
abbrev cL_refusal : ByteArray := method_29_code
def yL_refusal : MethodName := ⟨RL, "refusal", "(LTubHire;Z)I"⟩
abbrev cL_undo : ByteArray := method_30_code
def yL_undo : MethodName := ⟨RL, "undo", "(LTubHire;)I"⟩
abbrev cL_drawn : ByteArray := method_31_code
def yL_drawn : MethodName := ⟨RL, "drawn", "([I)LTubHire;"⟩
abbrev cL_law : ByteArray := code
def yL_law : MethodName := ⟨RL, "law", "([I)Z"⟩
abbrev cL_sums : ByteArray := method_33_code
def yL_sums : MethodName := ⟨RL, "sums", "(LTubHire;)Z"⟩
abbrev cL_tents : ByteArray := method_34_code
def yL_tents : MethodName := ⟨RL, "tents", "(LTubHire;)Z"⟩
abbrev cL_best : ByteArray := method_35_code
def yL_best : MethodName := ⟨RL, "best", "(LTubHire;)Z"⟩
abbrev cL_ahead : ByteArray := method_36_code
def yL_ahead : MethodName := ⟨RL, "ahead", "(LTubHire;)Z"⟩
abbrev cL_sum : ByteArray := method_37_code
def yL_sum : MethodName := ⟨RL, "sum", "(LTubHire;)J"⟩
abbrev cL_undone : ByteArray := method_38_code
def yL_undone : MethodName := ⟨RL, "undone", "([ILTubHire;)Z"⟩
abbrev vwCl : List vw_C := [(RJ0, TJ0, 4), (RJ4, TJ4, 4), (RJx00060, TJx00060, 6), (RJx7c733, TJx7c733, 6), (RX2, TX2, 2), (RX3, TX3, 3), (RX4, TX4, 2), (RX5, TX5, 14), (RX6, TX6, 6), (RX7, TX7, 6), (RX8, TX8, 7), (RX9, TX9, 8)]
