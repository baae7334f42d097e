/-! ===== BEGIN printed: names, fields, word lists, decode rows ===== -/
def RX0 : String := "ArchWater$Aqueduct"
def TX0 : u_T := fun k => match k with
  | 0 => ("ArchWater$Aqueduct", "springTable", "[I", true)
  | 1 => ("ArchWater$Aqueduct", "cityTable", "[I", true)
  | 2 => ("ArchWater$Aqueduct", "row", "[LArchWater$Arch;", true)
  | 3 => ("ArchWater$Aqueduct", "arches", "I", false)
  | 4 => ("ArchWater$Aqueduct", "hour", "I", false)
  | 5 => ("ArchWater$Aqueduct", "coins", "I", false)
  | 6 => ("ArchWater$Aqueduct", "holds", "I", false)
  | 7 => ("ArchWater$Aqueduct", "cistern", "I", false)
  | 8 => ("ArchWater$Aqueduct", "given", "I", false)
  | 9 => ("ArchWater$Aqueduct", "spilt", "I", false)
  | 10 => ("ArchWater$Aqueduct", "used", "I", false)
  | 11 => ("ArchWater$Aqueduct", "drunk", "I", false)
  | _ => ("ArchWater$Aqueduct", "thirst", "I", false)
def tyX0 : Nat → FieldType := fun k => match k with
  | 0 => .array .int
  | 1 => .array .int
  | 2 => .array (.object "ArchWater$Arch")
  | 3 => .int
  | 4 => .int
  | 5 => .int
  | 6 => .int
  | 7 => .int
  | 8 => .int
  | 9 => .int
  | 10 => .int
  | 11 => .int
  | _ => .int
abbrev wsX00 : List Cond := u_ws RX0 TX0 13
theorem nmX0 : ∀ a, a < 13 → ∀ b, b < 13 → a ≠ b → (TX0 a).2.1 ≠ (TX0 b).2.1 := by decide +kernel
theorem tyX0_ok : ∀ k, k < 13 → parseFieldDescriptor (TX0 k).2.2.1 = some (tyX0 k) := by decide +kernel
abbrev cX0_init : ByteArray := prog_2_method_1_code
def yX0_init : MethodName := ⟨RX0, "<init>", "()V"⟩
abbrev cX0_copyFrom : ByteArray := prog_2_method_2_code
def yX0_copyFrom : MethodName := ⟨RX0, "copyFrom", "(LArchWater$Aqueduct;)V"⟩
abbrev cX0_archAt : ByteArray := prog_2_method_3_code
def yX0_archAt : MethodName := ⟨RX0, "archAt", "(I)LArchWater$Arch;"⟩
abbrev cX0_mostHeightOfNext : ByteArray := prog_2_method_4_code
def yX0_mostHeightOfNext : MethodName := ⟨RX0, "mostHeightOfNext", "()I"⟩
abbrev cX0_addArch : ByteArray := prog_2_method_5_code
def yX0_addArch : MethodName := ⟨RX0, "addArch", "(II)I"⟩
abbrev cX0_resizeCistern : ByteArray := prog_2_method_6_code
def yX0_resizeCistern : MethodName := ⟨RX0, "resizeCistern", "(I)I"⟩
abbrev cX0_goOn : ByteArray := prog_2_method_7_code
def yX0_goOn : MethodName := ⟨RX0, "goOn", "(I)V"⟩
abbrev cX0_goOnAnHour : ByteArray := prog_2_method_8_code
def yX0_goOnAnHour : MethodName := ⟨RX0, "goOnAnHour", "()V"⟩
abbrev cX0_letCityDrink : ByteArray := prog_2_method_9_code
def yX0_letCityDrink : MethodName := ⟨RX0, "letCityDrink", "(I)V"⟩
abbrev cX0_sendOn : ByteArray := prog_2_method_10_code
def yX0_sendOn : MethodName := ⟨RX0, "sendOn", "(I)V"⟩
abbrev cX0_grindAt : ByteArray := prog_2_method_11_code
def yX0_grindAt : MethodName := ⟨RX0, "grindAt", "(I)V"⟩
abbrev cX0_letSpringGive : ByteArray := prog_2_method_12_code
def yX0_letSpringGive : MethodName := ⟨RX0, "letSpringGive", "(I)V"⟩
abbrev cX0_wearAll : ByteArray := prog_2_method_13_code
def yX0_wearAll : MethodName := ⟨RX0, "wearAll", "()V"⟩
abbrev cX0_pour : ByteArray := prog_2_method_14_code
def yX0_pour : MethodName := ⟨RX0, "pour", "(II)I"⟩
abbrev cX0_slope : ByteArray := prog_2_method_15_code
def yX0_slope : MethodName := ⟨RX0, "slope", "(I)I"⟩
abbrev cX0_rate : ByteArray := prog_2_method_16_code
def yX0_rate : MethodName := ⟨RX0, "rate", "(I)I"⟩
abbrev cX0_mills : ByteArray := prog_2_method_17_code
def yX0_mills : MethodName := ⟨RX0, "mills", "()I"⟩
abbrev cX0_water : ByteArray := prog_2_method_18_code
def yX0_water : MethodName := ⟨RX0, "water", "()I"⟩
abbrev cX0_leaked : ByteArray := prog_2_method_19_code
def yX0_leaked : MethodName := ⟨RX0, "leaked", "()I"⟩
abbrev cX0_flour : ByteArray := prog_2_method_20_code
def yX0_flour : MethodName := ⟨RX0, "flour", "()I"⟩
abbrev cX0_archNumber : ByteArray := prog_2_method_21_code
def yX0_archNumber : MethodName := ⟨RX0, "archNumber", "(II)I"⟩
abbrev cX0_countNumber : ByteArray := prog_2_method_22_code
def yX0_countNumber : MethodName := ⟨RX0, "countNumber", "(I)I"⟩
def RX1 : String := "ArchWater$Arch"
def TX1 : u_T := fun k => match k with
  | 0 => ("ArchWater$Arch", "height", "I", false)
  | 1 => ("ArchWater$Arch", "size", "I", false)
  | 2 => ("ArchWater$Arch", "water", "I", false)
  | 3 => ("ArchWater$Arch", "wear", "I", false)
  | 4 => ("ArchWater$Arch", "drops", "I", false)
  | 5 => ("ArchWater$Arch", "leaked", "I", false)
  | 6 => ("ArchWater$Arch", "appetite", "I", false)
  | 7 => ("ArchWater$Arch", "tenths", "I", false)
  | 8 => ("ArchWater$Arch", "flour", "I", false)
  | _ => ("ArchWater$Arch", "took", "I", false)
def tyX1 : Nat → FieldType := fun k => match k with
  | 0 => .int
  | 1 => .int
  | 2 => .int
  | 3 => .int
  | 4 => .int
  | 5 => .int
  | 6 => .int
  | 7 => .int
  | 8 => .int
  | _ => .int
abbrev wsX10 : List Cond := u_ws RX1 TX1 10
theorem nmX1 : ∀ a, a < 10 → ∀ b, b < 10 → a ≠ b → (TX1 a).2.1 ≠ (TX1 b).2.1 := by decide +kernel
theorem tyX1_ok : ∀ k, k < 10 → parseFieldDescriptor (TX1 k).2.2.1 = some (tyX1 k) := by decide +kernel
abbrev cX1_init : ByteArray := prog_3_method_1_code
def yX1_init : MethodName := ⟨RX1, "<init>", "()V"⟩
abbrev cX1_copyFrom : ByteArray := prog_3_method_2_code
def yX1_copyFrom : MethodName := ⟨RX1, "copyFrom", "(LArchWater$Arch;)V"⟩
abbrev cX1_hasMill : ByteArray := prog_3_method_3_code
def yX1_hasMill : MethodName := ⟨RX1, "hasMill", "()Z"⟩
abbrev cX1_hasOpenSluice : ByteArray := prog_3_method_4_code
def yX1_hasOpenSluice : MethodName := ⟨RX1, "hasOpenSluice", "()Z"⟩
abbrev cX1_fill : ByteArray := prog_3_method_5_code
def yX1_fill : MethodName := ⟨RX1, "fill", "(I)I"⟩
abbrev cX1_leadToMill : ByteArray := prog_3_method_6_code
def yX1_leadToMill : MethodName := ⟨RX1, "leadToMill", "(I)I"⟩
abbrev cX1_grind : ByteArray := prog_3_method_7_code
def yX1_grind : MethodName := ⟨RX1, "grind", "()I"⟩
abbrev cX1_leak : ByteArray := prog_3_method_8_code
def yX1_leak : MethodName := ⟨RX1, "leak", "()V"⟩
abbrev cX1_wearOfDay : ByteArray := prog_3_method_9_code
def yX1_wearOfDay : MethodName := ⟨RX1, "wearOfDay", "()V"⟩
abbrev cX1_wearBy : ByteArray := prog_3_method_10_code
def yX1_wearBy : MethodName := ⟨RX1, "wearBy", "(I)V"⟩
abbrev cX1_millNumber : ByteArray := prog_3_method_11_code
def yX1_millNumber : MethodName := ⟨RX1, "millNumber", "(I)I"⟩
def RX2 : String := "ArchWater"
def TX2 : u_T := fun k => match k with
  | 0 => ("ArchWater", "now", "LArchWater$Aqueduct;", true)
  | _ => ("ArchWater", "trial", "LArchWater$Aqueduct;", true)
def tyX2 : Nat → FieldType := fun k => match k with
  | 0 => .object "ArchWater$Aqueduct"
  | _ => .object "ArchWater$Aqueduct"
abbrev wsX20 : List Cond := u_ws RX2 TX2 2
theorem nmX2 : ∀ a, a < 2 → ∀ b, b < 2 → a ≠ b → (TX2 a).2.1 ≠ (TX2 b).2.1 := by decide +kernel
theorem tyX2_ok : ∀ k, k < 2 → parseFieldDescriptor (TX2 k).2.2.1 = some (tyX2 k) := by decide +kernel
abbrev cX2_init : ByteArray := prog_1_method_1_code
def yX2_init : MethodName := ⟨RX2, "<init>", "()V"⟩
abbrev cX2_build : ByteArray := prog_1_method_2_code
def yX2_build : MethodName := ⟨RX2, "build", "(II)I"⟩
abbrev cX2_setSpring : ByteArray := prog_1_method_3_code
def yX2_setSpring : MethodName := ⟨RX2, "setSpring", "(II)I"⟩
abbrev cX2_setCity : ByteArray := prog_1_method_4_code
def yX2_setCity : MethodName := ⟨RX2, "setCity", "(II)I"⟩
abbrev cX2_setCistern : ByteArray := prog_1_method_5_code
def yX2_setCistern : MethodName := ⟨RX2, "setCistern", "(I)I"⟩
abbrev cX2_arch : ByteArray := prog_1_method_6_code
def yX2_arch : MethodName := ⟨RX2, "arch", "(II)I"⟩
abbrev cX2_addMill : ByteArray := prog_1_method_7_code
def yX2_addMill : MethodName := ⟨RX2, "addMill", "(II)I"⟩
abbrev cX2_setSluice : ByteArray := prog_1_method_8_code
def yX2_setSluice : MethodName := ⟨RX2, "setSluice", "(II)I"⟩
abbrev cX2_mill : ByteArray := prog_1_method_9_code
def yX2_mill : MethodName := ⟨RX2, "mill", "(II)I"⟩
abbrev cX2_mend : ByteArray := prog_1_method_10_code
def yX2_mend : MethodName := ⟨RX2, "mend", "(I)I"⟩
abbrev cX2_quake : ByteArray := prog_1_method_11_code
def yX2_quake : MethodName := ⟨RX2, "quake", "(II)I"⟩
abbrev cX2_pass : ByteArray := prog_1_method_12_code
def yX2_pass : MethodName := ⟨RX2, "pass", "(I)I"⟩
abbrev cX2_count : ByteArray := prog_1_method_13_code
def yX2_count : MethodName := ⟨RX2, "count", "(I)I"⟩
abbrev cX2_foresee : ByteArray := prog_1_method_14_code
def yX2_foresee : MethodName := ⟨RX2, "foresee", "(II)I"⟩
abbrev cX2_advise : ByteArray := prog_1_method_15_code
def yX2_advise : MethodName := ⟨RX2, "advise", "(I)I"⟩
abbrev cX2_thirsty : ByteArray := prog_1_method_16_code
def yX2_thirsty : MethodName := ⟨RX2, "thirsty", "()I"⟩
abbrev cX2_worst : ByteArray := prog_1_method_17_code
def yX2_worst : MethodName := ⟨RX2, "worst", "()I"⟩
abbrev cX2_reaches : ByteArray := prog_1_method_18_code
def yX2_reaches : MethodName := ⟨RX2, "reaches", "()D"⟩
abbrev cX2_digest : ByteArray := prog_1_method_19_code
def yX2_digest : MethodName := ⟨RX2, "digest", "()J"⟩
abbrev cX2_digestArch : ByteArray := prog_1_method_20_code
def yX2_digestArch : MethodName := ⟨RX2, "digestArch", "(JI)J"⟩
abbrev cX2_thirstWithClosed : ByteArray := prog_1_method_21_code
def yX2_thirstWithClosed : MethodName := ⟨RX2, "thirstWithClosed", "(II)I"⟩
abbrev cX2_setHour : ByteArray := prog_1_method_22_code
def yX2_setHour : MethodName := ⟨RX2, "setHour", "([III)I"⟩
abbrev cX2_requireArch : ByteArray := prog_1_method_23_code
def yX2_requireArch : MethodName := ⟨RX2, "requireArch", "(I)V"⟩
abbrev cX2_requireIndex : ByteArray := prog_1_method_24_code
def yX2_requireIndex : MethodName := ⟨RX2, "requireIndex", "(II)V"⟩
abbrev cX2_requireRange : ByteArray := prog_1_method_25_code
def yX2_requireRange : MethodName := ⟨RX2, "requireRange", "(III)V"⟩
def RX3 : String := "ArchWaterModel$State"
def TX3 : u_T := fun k => match k with
  | 0 => ("ArchWaterModel$State", "hour", "I", false)
  | 1 => ("ArchWaterModel$State", "cistern", "I", false)
  | 2 => ("ArchWaterModel$State", "holds", "I", false)
  | 3 => ("ArchWaterModel$State", "coins", "I", false)
  | 4 => ("ArchWaterModel$State", "water", "[I", true)
  | 5 => ("ArchWaterModel$State", "wear", "[I", true)
  | 6 => ("ArchWaterModel$State", "drops", "[I", true)
  | 7 => ("ArchWaterModel$State", "leaked", "[I", true)
  | 8 => ("ArchWaterModel$State", "tenths", "[I", true)
  | 9 => ("ArchWaterModel$State", "flour", "[I", true)
  | 10 => ("ArchWaterModel$State", "took", "[I", true)
  | 11 => ("ArchWaterModel$State", "given", "I", false)
  | 12 => ("ArchWaterModel$State", "spilt", "I", false)
  | 13 => ("ArchWaterModel$State", "used", "I", false)
  | 14 => ("ArchWaterModel$State", "drunk", "I", false)
  | 15 => ("ArchWaterModel$State", "thirst", "I", false)
  | _ => ("ArchWaterModel$State", "this$0", "LArchWaterModel;", true)
def tyX3 : Nat → FieldType := fun k => match k with
  | 0 => .int
  | 1 => .int
  | 2 => .int
  | 3 => .int
  | 4 => .array .int
  | 5 => .array .int
  | 6 => .array .int
  | 7 => .array .int
  | 8 => .array .int
  | 9 => .array .int
  | 10 => .array .int
  | 11 => .int
  | 12 => .int
  | 13 => .int
  | 14 => .int
  | 15 => .int
  | _ => .object "ArchWaterModel"
abbrev wsX30 : List Cond := u_ws RX3 TX3 17
theorem nmX3 : ∀ a, a < 17 → ∀ b, b < 17 → a ≠ b → (TX3 a).2.1 ≠ (TX3 b).2.1 := by decide +kernel
theorem tyX3_ok : ∀ k, k < 17 → parseFieldDescriptor (TX3 k).2.2.1 = some (tyX3 k) := by decide +kernel
abbrev cX3_init : ByteArray := prog_6_method_1_code
def yX3_init : MethodName := ⟨RX3, "<init>", "(LArchWaterModel;)V"⟩
abbrev cX3_copy : ByteArray := prog_6_method_2_code
def yX3_copy : MethodName := ⟨RX3, "copy", "([I[I)V"⟩
abbrev cX3_become : ByteArray := prog_6_method_3_code
def yX3_become : MethodName := ⟨RX3, "become", "(LArchWaterModel$State;)V"⟩
abbrev cX3_come : ByteArray := prog_6_method_4_code
def yX3_come : MethodName := ⟨RX3, "come", "(II)I"⟩
abbrev cX3_pass : ByteArray := prog_6_method_5_code
def yX3_pass : MethodName := ⟨RX3, "pass", "()I"⟩
abbrev cX3_grind : ByteArray := prog_6_method_6_code
def yX3_grind : MethodName := ⟨RX3, "grind", "(I)V"⟩
abbrev cX3_over : ByteArray := prog_6_method_7_code
def yX3_over : MethodName := ⟨RX3, "over", "([I)I"⟩
def RX4 : String := "ArchWaterModel"
def TX4 : u_T := fun k => match k with
  | 0 => ("ArchWaterModel", "thrown", "I", false)
  | 1 => ("ArchWaterModel", "spring", "[I", true)
  | 2 => ("ArchWaterModel", "city", "[I", true)
  | 3 => ("ArchWaterModel", "arches", "I", false)
  | 4 => ("ArchWaterModel", "height", "[I", true)
  | 5 => ("ArchWaterModel", "size", "[I", true)
  | 6 => ("ArchWaterModel", "appetite", "[I", true)
  | 7 => ("ArchWaterModel", "s", "LArchWaterModel$State;", true)
  | _ => ("ArchWaterModel", "ahead", "LArchWaterModel$State;", true)
def tyX4 : Nat → FieldType := fun k => match k with
  | 0 => .int
  | 1 => .array .int
  | 2 => .array .int
  | 3 => .int
  | 4 => .array .int
  | 5 => .array .int
  | 6 => .array .int
  | 7 => .object "ArchWaterModel$State"
  | _ => .object "ArchWaterModel$State"
abbrev wsX40 : List Cond := u_ws RX4 TX4 9
theorem nmX4 : ∀ a, a < 9 → ∀ b, b < 9 → a ≠ b → (TX4 a).2.1 ≠ (TX4 b).2.1 := by decide +kernel
theorem tyX4_ok : ∀ k, k < 9 → parseFieldDescriptor (TX4 k).2.2.1 = some (tyX4 k) := by decide +kernel
abbrev cX4_init : ByteArray := prog_5_method_1_code
def yX4_init : MethodName := ⟨RX4, "<init>", "()V"⟩
abbrev cX4_thrown : ByteArray := prog_5_method_2_code
def yX4_thrown : MethodName := ⟨RX4, "thrown", "()I"⟩
abbrev cX4_no : ByteArray := prog_5_method_3_code
def yX4_no : MethodName := ⟨RX4, "no", "(I)I"⟩
abbrev cX4_isIn : ByteArray := prog_5_method_4_code
def yX4_isIn : MethodName := ⟨RX4, "isIn", "(III)Z"⟩
abbrev cX4_isArch : ByteArray := prog_5_method_5_code
def yX4_isArch : MethodName := ⟨RX4, "isArch", "(I)Z"⟩
abbrev cX4_slope : ByteArray := prog_5_method_6_code
def yX4_slope : MethodName := ⟨RX4, "slope", "(I)I"⟩
abbrev cX4_rate : ByteArray := prog_5_method_7_code
def yX4_rate : MethodName := ⟨RX4, "rate", "(I)I"⟩
abbrev cX4_build : ByteArray := prog_5_method_8_code
def yX4_build : MethodName := ⟨RX4, "build", "(II)I"⟩
abbrev cX4_set : ByteArray := prog_5_method_9_code
def yX4_set : MethodName := ⟨RX4, "set", "([III)I"⟩
abbrev cX4_setSpring : ByteArray := prog_5_method_10_code
def yX4_setSpring : MethodName := ⟨RX4, "setSpring", "(II)I"⟩
abbrev cX4_setCity : ByteArray := prog_5_method_11_code
def yX4_setCity : MethodName := ⟨RX4, "setCity", "(II)I"⟩
abbrev cX4_setCistern : ByteArray := prog_5_method_12_code
def yX4_setCistern : MethodName := ⟨RX4, "setCistern", "(I)I"⟩
abbrev cX4_archTold : ByteArray := prog_5_method_13_code
def yX4_archTold : MethodName := ⟨RX4, "archTold", "(II)I"⟩
abbrev cX4_arch : ByteArray := prog_5_method_14_code
def yX4_arch : MethodName := ⟨RX4, "arch", "(II)I"⟩
abbrev cX4_mills : ByteArray := prog_5_method_15_code
def yX4_mills : MethodName := ⟨RX4, "mills", "()I"⟩
abbrev cX4_addMill : ByteArray := prog_5_method_16_code
def yX4_addMill : MethodName := ⟨RX4, "addMill", "(II)I"⟩
abbrev cX4_setSluice : ByteArray := prog_5_method_17_code
def yX4_setSluice : MethodName := ⟨RX4, "setSluice", "(II)I"⟩
abbrev cX4_millTold : ByteArray := prog_5_method_18_code
def yX4_millTold : MethodName := ⟨RX4, "millTold", "(II)I"⟩
abbrev cX4_mill : ByteArray := prog_5_method_19_code
def yX4_mill : MethodName := ⟨RX4, "mill", "(II)I"⟩
abbrev cX4_mend : ByteArray := prog_5_method_20_code
def yX4_mend : MethodName := ⟨RX4, "mend", "(I)I"⟩
abbrev cX4_quake : ByteArray := prog_5_method_21_code
def yX4_quake : MethodName := ⟨RX4, "quake", "(II)I"⟩
abbrev cX4_pass : ByteArray := prog_5_method_22_code
def yX4_pass : MethodName := ⟨RX4, "pass", "(LArchWaterModel$State;I)I"⟩
abbrev cX4_pass_ : ByteArray := prog_5_method_23_code
def yX4_pass_ : MethodName := ⟨RX4, "pass", "(I)I"⟩
abbrev cX4_counted : ByteArray := prog_5_method_24_code
def yX4_counted : MethodName := ⟨RX4, "counted", "(I)I"⟩
abbrev cX4_count : ByteArray := prog_5_method_25_code
def yX4_count : MethodName := ⟨RX4, "count", "(I)I"⟩
abbrev cX4_foresee : ByteArray := prog_5_method_26_code
def yX4_foresee : MethodName := ⟨RX4, "foresee", "(II)I"⟩
abbrev cX4_advise : ByteArray := prog_5_method_27_code
def yX4_advise : MethodName := ⟨RX4, "advise", "(I)I"⟩
abbrev cX4_thirsty : ByteArray := prog_5_method_28_code
def yX4_thirsty : MethodName := ⟨RX4, "thirsty", "()I"⟩
abbrev cX4_worst : ByteArray := prog_5_method_29_code
def yX4_worst : MethodName := ⟨RX4, "worst", "()I"⟩
abbrev cX4_reaches : ByteArray := prog_5_method_30_code
def yX4_reaches : MethodName := ⟨RX4, "reaches", "()D"⟩
abbrev cX4_digest : ByteArray := prog_5_method_31_code
def yX4_digest : MethodName := ⟨RX4, "digest", "()J"⟩
def RJ9 : String := "java/lang/Math"
def TJ9 : u_T := fun k => match k with
  | _ => ("", "", "", false)
def tyJ9 : Nat → FieldType := fun k => match k with
  | _ => .int
abbrev wsJ90 : List Cond := u_ws RJ9 TJ9 0
theorem nmJ9 : ∀ a, a < 0 → ∀ b, b < 0 → a ≠ b → (TJ9 a).2.1 ≠ (TJ9 b).2.1 := by decide +kernel
theorem tyJ9_ok : ∀ k, k < 0 → parseFieldDescriptor (TJ9 k).2.2.1 = some (tyJ9 k) := by decide +kernel
abbrev cJ9_floorMod_7cf53 : ByteArray := prog_11_method_50_code
def yJ9_floorMod_7cf53 : MethodName := ⟨RJ9, "floorMod", "(II)I"⟩
abbrev cJ9_max_7cf53 : ByteArray := prog_11_method_65_code
def yJ9_max_7cf53 : MethodName := ⟨RJ9, "max", "(II)I"⟩
abbrev cJ9_min_7cf53 : ByteArray := prog_11_method_69_code
def yJ9_min_7cf53 : MethodName := ⟨RJ9, "min", "(II)I"⟩
def RJ0 : String := "java/lang/String"
def TJ0 : u_T := fun k => match k with
  | _ => ("", "", "", false)
def tyJ0 : Nat → FieldType := fun k => match k with
  | _ => .int
abbrev wsJ00 : List Cond := u_ws RJ0 TJ0 0
theorem nmJ0 : ∀ a, a < 0 → ∀ b, b < 0 → a ≠ b → (TJ0 a).2.1 ≠ (TJ0 b).2.1 := by decide +kernel
theorem tyJ0_ok : ∀ k, k < 0 → parseFieldDescriptor (TJ0 k).2.2.1 = some (tyJ0 k) := by decide +kernel
def RJ10 : String := "java/lang/System"
def TJ10 : u_T := fun k => match k with
  | _ => ("", "", "", false)
def tyJ10 : Nat → FieldType := fun k => match k with
  | _ => .int
abbrev wsJ100 : List Cond := u_ws RJ10 TJ10 0
theorem nmJ10 : ∀ a, a < 0 → ∀ b, b < 0 → a ≠ b → (TJ10 a).2.1 ≠ (TJ10 b).2.1 := by decide +kernel
theorem tyJ10_ok : ∀ k, k < 0 → parseFieldDescriptor (TJ10 k).2.2.1 = some (tyJ10 k) := by decide +kernel
def RL : String := "ArchWaterLaw"
abbrev cL_build : ByteArray := method_3_code
def yL_build : MethodName := ⟨RL, "build", "(LArchWater;II[J)I"⟩
abbrev cL_setSpring : ByteArray := method_4_code
def yL_setSpring : MethodName := ⟨RL, "setSpring", "(LArchWater;II[J)I"⟩
abbrev cL_setCity : ByteArray := method_5_code
def yL_setCity : MethodName := ⟨RL, "setCity", "(LArchWater;II[J)I"⟩
abbrev cL_setCistern : ByteArray := method_6_code
def yL_setCistern : MethodName := ⟨RL, "setCistern", "(LArchWater;I[J)I"⟩
abbrev cL_arch : ByteArray := method_7_code
def yL_arch : MethodName := ⟨RL, "arch", "(LArchWater;II[J)I"⟩
abbrev cL_addMill : ByteArray := method_8_code
def yL_addMill : MethodName := ⟨RL, "addMill", "(LArchWater;II[J)I"⟩
abbrev cL_setSluice : ByteArray := method_9_code
def yL_setSluice : MethodName := ⟨RL, "setSluice", "(LArchWater;II[J)I"⟩
abbrev cL_mill : ByteArray := method_10_code
def yL_mill : MethodName := ⟨RL, "mill", "(LArchWater;II[J)I"⟩
abbrev cL_mend : ByteArray := method_11_code
def yL_mend : MethodName := ⟨RL, "mend", "(LArchWater;I[J)I"⟩
abbrev cL_quake : ByteArray := method_12_code
def yL_quake : MethodName := ⟨RL, "quake", "(LArchWater;II[J)I"⟩
abbrev cL_pass : ByteArray := method_13_code
def yL_pass : MethodName := ⟨RL, "pass", "(LArchWater;I[J)I"⟩
abbrev cL_count : ByteArray := method_14_code
def yL_count : MethodName := ⟨RL, "count", "(LArchWater;I[J)I"⟩
abbrev cL_foresee : ByteArray := method_15_code
def yL_foresee : MethodName := ⟨RL, "foresee", "(LArchWater;II[J)I"⟩
abbrev cL_advise : ByteArray := method_16_code
def yL_advise : MethodName := ⟨RL, "advise", "(LArchWater;I[J)I"⟩
abbrev cL_law : ByteArray := code
def yL_law : MethodName := ⟨RL, "law", "([I)Z"⟩
def wsX1_init : List Cond := .code yX1_init cX1_init 1 none :: ([.methodLink RX1 3 objectInit, .instanceMethod objectInit, .code objectInit ⟨#[0xb1]⟩ 1 none])
def wsX0_init : List Cond := .code yX0_init cX0_init 2 none :: ([.methodLink RX0 3 objectInit, .instanceMethod objectInit, .code objectInit ⟨#[0xb1]⟩ 1 none, .arrayClass .int, .fieldLink RX0 9 "ArchWater$Aqueduct" "springTable" "[I", .fieldLink RX0 15 "ArchWater$Aqueduct" "cityTable" "[I", .classLink RX0 18 RX1, .fieldLink RX0 20 "ArchWater$Aqueduct" "row" "[LArchWater$Arch;", .fieldLink RX0 24 "ArchWater$Aqueduct" "holds" "I", .instantiable RX1 10, .initialized RX1, .instanceMethod yX1_init, .code yX1_init cX1_init 1 none, .methodLink RX1 3 objectInit] ++ wsX00 ++ wsX10)
def wsX1_copyFrom : List Cond := .code yX1_copyFrom cX1_copyFrom 2 none :: ([.fieldLink RX1 9 "ArchWater$Arch" "height" "I", .fieldLink RX1 15 "ArchWater$Arch" "size" "I", .fieldLink RX1 18 "ArchWater$Arch" "water" "I", .fieldLink RX1 21 "ArchWater$Arch" "wear" "I", .fieldLink RX1 24 "ArchWater$Arch" "drops" "I", .fieldLink RX1 27 "ArchWater$Arch" "leaked" "I", .fieldLink RX1 30 "ArchWater$Arch" "appetite" "I", .fieldLink RX1 33 "ArchWater$Arch" "tenths" "I", .fieldLink RX1 36 "ArchWater$Arch" "flour" "I", .fieldLink RX1 39 "ArchWater$Arch" "took" "I"] ++ wsX10)
def wsX0_copyFrom_r1 : List Cond := [Cond.fieldLink RX0 9 "ArchWater$Aqueduct" "springTable" "[I", Cond.methodLink RX0 29 arraycopyName, Cond.native arraycopyName, Cond.static arraycopyName, Cond.initialized "java/lang/System", Cond.fieldLink RX0 15 "ArchWater$Aqueduct" "cityTable" "[I", Cond.fieldLink RX0 35 "ArchWater$Aqueduct" "arches" "I", Cond.fieldLink RX0 20 "ArchWater$Aqueduct" "row" "[LArchWater$Arch;", Cond.fieldLink RX0 42 "ArchWater$Aqueduct" "hour" "I", Cond.fieldLink RX0 45 "ArchWater$Aqueduct" "coins" "I", Cond.fieldLink RX0 24 "ArchWater$Aqueduct" "holds" "I", Cond.fieldLink RX0 48 "ArchWater$Aqueduct" "cistern" "I", Cond.fieldLink RX0 51 "ArchWater$Aqueduct" "given" "I", Cond.fieldLink RX0 54 "ArchWater$Aqueduct" "spilt" "I", Cond.fieldLink RX0 57 "ArchWater$Aqueduct" "used" "I", Cond.fieldLink RX0 60 "ArchWater$Aqueduct" "drunk" "I", Cond.fieldLink RX0 63 "ArchWater$Aqueduct" "thirst" "I", Cond.methodLink RX0 38 yX1_copyFrom, Cond.instanceMethod yX1_copyFrom, Cond.selects RX1 yX1_copyFrom yX1_copyFrom, Cond.initialized RX1, Cond.code yX1_copyFrom cX1_copyFrom 2 none, Cond.fieldLink RX1 9 "ArchWater$Arch" "height" "I", Cond.fieldLink RX1 15 "ArchWater$Arch" "size" "I"]
def wsX0_copyFrom_r2 : List Cond := [Cond.fieldLink RX1 18 "ArchWater$Arch" "water" "I", Cond.fieldLink RX1 21 "ArchWater$Arch" "wear" "I", Cond.fieldLink RX1 24 "ArchWater$Arch" "drops" "I", Cond.fieldLink RX1 27 "ArchWater$Arch" "leaked" "I", Cond.fieldLink RX1 30 "ArchWater$Arch" "appetite" "I", Cond.fieldLink RX1 33 "ArchWater$Arch" "tenths" "I", Cond.fieldLink RX1 36 "ArchWater$Arch" "flour" "I", Cond.fieldLink RX1 39 "ArchWater$Arch" "took" "I"]
def wsX0_copyFrom : List Cond := .code yX0_copyFrom cX0_copyFrom 3 none :: ((wsX0_copyFrom_r1 ++ wsX0_copyFrom_r2) ++ wsX00 ++ wsX10)
def wsX0_archAt : List Cond := .code yX0_archAt cX0_archAt 2 (some (.object "ArchWater$Arch")) :: ([.fieldLink RX0 20 "ArchWater$Aqueduct" "row" "[LArchWater$Arch;"] ++ wsX00)
def wsX0_mostHeightOfNext : List Cond := .code yX0_mostHeightOfNext cX0_mostHeightOfNext 1 (some .int) :: ([.fieldLink RX0 35 "ArchWater$Aqueduct" "arches" "I", .fieldLink RX0 20 "ArchWater$Aqueduct" "row" "[LArchWater$Arch;", .fieldLink RX0 66 "ArchWater$Arch" "height" "I"] ++ wsX00 ++ wsX10)
def wsX0_addArch : List Cond := .code yX0_addArch cX0_addArch 4 (some .int) :: ([.fieldLink RX0 35 "ArchWater$Aqueduct" "arches" "I", .fieldLink RX0 20 "ArchWater$Aqueduct" "row" "[LArchWater$Arch;", .fieldLink RX0 66 "ArchWater$Arch" "height" "I", .fieldLink RX0 69 "ArchWater$Arch" "size" "I"] ++ wsX00 ++ wsX10)
def wsX0_resizeCistern : List Cond := .code yX0_resizeCistern cX0_resizeCistern 3 (some .int) :: ([.fieldLink RX0 48 "ArchWater$Aqueduct" "cistern" "I", .methodLink RX0 72 Lib.Math.max.name, .static Lib.Math.max.name, .initialized "java/lang/Math", .code Lib.Math.max.name Lib.Math.max.code 2 (some .int), .fieldLink RX0 24 "ArchWater$Aqueduct" "holds" "I", .fieldLink RX0 54 "ArchWater$Aqueduct" "spilt" "I"] ++ wsX00)
def wsJ9_floorMod_7cf53 : List Cond := .code yJ9_floorMod_7cf53 cJ9_floorMod_7cf53 3 (some .int) :: ([])
def wsX0_letCityDrink : List Cond := .code yX0_letCityDrink cX0_letCityDrink 3 none :: ([.fieldLink RX0 48 "ArchWater$Aqueduct" "cistern" "I", .methodLink RX0 103 Lib.Math.min.name, .static Lib.Math.min.name, .initialized "java/lang/Math", .code Lib.Math.min.name Lib.Math.min.code 2 (some .int), .fieldLink RX0 60 "ArchWater$Aqueduct" "drunk" "I", .fieldLink RX0 63 "ArchWater$Aqueduct" "thirst" "I"] ++ wsX00)
def wsX0_slope : List Cond := .code yX0_slope cX0_slope 3 (some .int) :: ([.fieldLink RX0 35 "ArchWater$Aqueduct" "arches" "I", .fieldLink RX0 20 "ArchWater$Aqueduct" "row" "[LArchWater$Arch;", .fieldLink RX0 66 "ArchWater$Arch" "height" "I"] ++ wsX00 ++ wsX10)
def wsX0_rate : List Cond := .code yX0_rate cX0_rate 2 (some .int) :: ([.methodLink RX0 103 Lib.Math.min.name, .static Lib.Math.min.name, .initialized "java/lang/Math", .code Lib.Math.min.name Lib.Math.min.code 2 (some .int), .methodLink RX0 132 yX0_slope, .instanceMethod yX0_slope, .selects RX0 yX0_slope yX0_slope, .initialized RX0, .code yX0_slope cX0_slope 3 (some .int), .fieldLink RX0 35 "ArchWater$Aqueduct" "arches" "I", .fieldLink RX0 20 "ArchWater$Aqueduct" "row" "[LArchWater$Arch;", .fieldLink RX0 66 "ArchWater$Arch" "height" "I"] ++ wsX00 ++ wsX10)
def wsX1_leadToMill : List Cond := .code yX1_leadToMill cX1_leadToMill 2 (some .int) :: ([.fieldLink RX1 33 "ArchWater$Arch" "tenths" "I", .fieldLink RX1 30 "ArchWater$Arch" "appetite" "I", .methodLink RX1 46 Lib.Math.min.name, .static Lib.Math.min.name, .initialized "java/lang/Math", .code Lib.Math.min.name Lib.Math.min.code 2 (some .int), .fieldLink RX1 39 "ArchWater$Arch" "took" "I", .fieldLink RX1 18 "ArchWater$Arch" "water" "I"] ++ wsX10)
def wsX1_fill : List Cond := .code yX1_fill cX1_fill 3 (some .int) :: ([.fieldLink RX1 15 "ArchWater$Arch" "size" "I", .fieldLink RX1 18 "ArchWater$Arch" "water" "I", .methodLink RX1 46 Lib.Math.min.name, .static Lib.Math.min.name, .initialized "java/lang/Math", .code Lib.Math.min.name Lib.Math.min.code 2 (some .int)] ++ wsX10)
def wsX0_pour : List Cond := .code yX0_pour cX0_pour 4 (some .int) :: ([.fieldLink RX0 35 "ArchWater$Aqueduct" "arches" "I", .fieldLink RX0 20 "ArchWater$Aqueduct" "row" "[LArchWater$Arch;", .fieldLink RX0 24 "ArchWater$Aqueduct" "holds" "I", .fieldLink RX0 48 "ArchWater$Aqueduct" "cistern" "I", .methodLink RX0 103 Lib.Math.min.name, .static Lib.Math.min.name, .initialized "java/lang/Math", .code Lib.Math.min.name Lib.Math.min.code 2 (some .int), .methodLink RX0 126 yX1_fill, .instanceMethod yX1_fill, .selects RX1 yX1_fill yX1_fill, .initialized RX1, .code yX1_fill cX1_fill 3 (some .int), .fieldLink RX1 15 "ArchWater$Arch" "size" "I", .fieldLink RX1 18 "ArchWater$Arch" "water" "I", .methodLink RX1 46 Lib.Math.min.name] ++ wsX00 ++ wsX10)
def wsX0_sendOn_r1 : List Cond := [Cond.fieldLink RX0 20 "ArchWater$Aqueduct" "row" "[LArchWater$Arch;", Cond.fieldLink RX0 106 "ArchWater$Arch" "water" "I", Cond.methodLink RX0 103 Lib.Math.min.name, Cond.static Lib.Math.min.name, Cond.initialized "java/lang/Math", Cond.code Lib.Math.min.name Lib.Math.min.code 2 (some .int), Cond.methodLink RX0 109 yX0_rate, Cond.instanceMethod yX0_rate, Cond.selects RX0 yX0_rate yX0_rate, Cond.initialized RX0, Cond.code yX0_rate cX0_rate 2 (some .int), Cond.methodLink RX0 132 yX0_slope, Cond.instanceMethod yX0_slope, Cond.selects RX0 yX0_slope yX0_slope, Cond.code yX0_slope cX0_slope 3 (some .int), Cond.fieldLink RX0 35 "ArchWater$Aqueduct" "arches" "I", Cond.fieldLink RX0 66 "ArchWater$Arch" "height" "I", Cond.methodLink RX0 113 yX1_leadToMill, Cond.instanceMethod yX1_leadToMill, Cond.selects RX1 yX1_leadToMill yX1_leadToMill, Cond.initialized RX1, Cond.code yX1_leadToMill cX1_leadToMill 2 (some .int), Cond.fieldLink RX1 33 "ArchWater$Arch" "tenths" "I", Cond.fieldLink RX1 30 "ArchWater$Arch" "appetite" "I"]
def wsX0_sendOn_r2 : List Cond := [Cond.methodLink RX1 46 Lib.Math.min.name, Cond.fieldLink RX1 39 "ArchWater$Arch" "took" "I", Cond.fieldLink RX1 18 "ArchWater$Arch" "water" "I", Cond.methodLink RX0 116 yX0_pour, Cond.instanceMethod yX0_pour, Cond.selects RX0 yX0_pour yX0_pour, Cond.code yX0_pour cX0_pour 4 (some .int), Cond.fieldLink RX0 24 "ArchWater$Aqueduct" "holds" "I", Cond.fieldLink RX0 48 "ArchWater$Aqueduct" "cistern" "I", Cond.methodLink RX0 126 yX1_fill, Cond.instanceMethod yX1_fill, Cond.selects RX1 yX1_fill yX1_fill, Cond.code yX1_fill cX1_fill 3 (some .int), Cond.fieldLink RX1 15 "ArchWater$Arch" "size" "I"]
def wsX0_sendOn : List Cond := .code yX0_sendOn cX0_sendOn 5 none :: ((wsX0_sendOn_r1 ++ wsX0_sendOn_r2) ++ wsX00 ++ wsX10)
def wsX1_grind : List Cond := .code yX1_grind cX1_grind 2 (some .int) :: ([.fieldLink RX1 36 "ArchWater$Arch" "flour" "I", .fieldLink RX1 39 "ArchWater$Arch" "took" "I"] ++ wsX10)
def wsX0_grindAt_r1 : List Cond := [Cond.fieldLink RX0 20 "ArchWater$Aqueduct" "row" "[LArchWater$Arch;", Cond.fieldLink RX0 119 "ArchWater$Arch" "took" "I", Cond.fieldLink RX0 45 "ArchWater$Aqueduct" "coins" "I", Cond.fieldLink RX0 54 "ArchWater$Aqueduct" "spilt" "I", Cond.fieldLink RX0 57 "ArchWater$Aqueduct" "used" "I", Cond.methodLink RX0 122 yX1_grind, Cond.instanceMethod yX1_grind, Cond.selects RX1 yX1_grind yX1_grind, Cond.initialized RX1, Cond.code yX1_grind cX1_grind 2 (some .int), Cond.fieldLink RX1 36 "ArchWater$Arch" "flour" "I", Cond.fieldLink RX1 39 "ArchWater$Arch" "took" "I", Cond.methodLink RX0 116 yX0_pour, Cond.instanceMethod yX0_pour, Cond.selects RX0 yX0_pour yX0_pour, Cond.initialized RX0, Cond.code yX0_pour cX0_pour 4 (some .int), Cond.fieldLink RX0 35 "ArchWater$Aqueduct" "arches" "I", Cond.fieldLink RX0 24 "ArchWater$Aqueduct" "holds" "I", Cond.fieldLink RX0 48 "ArchWater$Aqueduct" "cistern" "I", Cond.methodLink RX0 103 Lib.Math.min.name, Cond.static Lib.Math.min.name, Cond.initialized "java/lang/Math", Cond.code Lib.Math.min.name Lib.Math.min.code 2 (some .int)]
def wsX0_grindAt_r2 : List Cond := [Cond.methodLink RX0 126 yX1_fill, Cond.instanceMethod yX1_fill, Cond.selects RX1 yX1_fill yX1_fill, Cond.code yX1_fill cX1_fill 3 (some .int), Cond.fieldLink RX1 15 "ArchWater$Arch" "size" "I", Cond.fieldLink RX1 18 "ArchWater$Arch" "water" "I", Cond.methodLink RX1 46 Lib.Math.min.name]
def wsX0_grindAt : List Cond := .code yX0_grindAt cX0_grindAt 4 none :: ((wsX0_grindAt_r1 ++ wsX0_grindAt_r2) ++ wsX00 ++ wsX10)
def wsX0_letSpringGive : List Cond := .code yX0_letSpringGive cX0_letSpringGive 3 none :: ([.fieldLink RX0 51 "ArchWater$Aqueduct" "given" "I", .fieldLink RX0 35 "ArchWater$Aqueduct" "arches" "I", .fieldLink RX0 20 "ArchWater$Aqueduct" "row" "[LArchWater$Arch;", .fieldLink RX0 54 "ArchWater$Aqueduct" "spilt" "I", .methodLink RX0 126 yX1_fill, .instanceMethod yX1_fill, .selects RX1 yX1_fill yX1_fill, .initialized RX1, .code yX1_fill cX1_fill 3 (some .int), .fieldLink RX1 15 "ArchWater$Arch" "size" "I", .fieldLink RX1 18 "ArchWater$Arch" "water" "I", .methodLink RX1 46 Lib.Math.min.name, .static Lib.Math.min.name, .initialized "java/lang/Math", .code Lib.Math.min.name Lib.Math.min.code 2 (some .int)] ++ wsX00 ++ wsX10)
def wsX1_leak : List Cond := .code yX1_leak cX1_leak 2 none :: ([.fieldLink RX1 24 "ArchWater$Arch" "drops" "I", .fieldLink RX1 18 "ArchWater$Arch" "water" "I", .fieldLink RX1 21 "ArchWater$Arch" "wear" "I", .methodLink RX1 46 Lib.Math.min.name, .static Lib.Math.min.name, .initialized "java/lang/Math", .code Lib.Math.min.name Lib.Math.min.code 2 (some .int), .fieldLink RX1 27 "ArchWater$Arch" "leaked" "I"] ++ wsX10)
def wsX1_hasMill : List Cond := .code yX1_hasMill cX1_hasMill 1 (some .boolean) :: ([.fieldLink RX1 30 "ArchWater$Arch" "appetite" "I"] ++ wsX10)
def wsX1_hasOpenSluice : List Cond := .code yX1_hasOpenSluice cX1_hasOpenSluice 1 (some .boolean) :: ([.fieldLink RX1 33 "ArchWater$Arch" "tenths" "I", .methodLink RX1 42 yX1_hasMill, .instanceMethod yX1_hasMill, .selects RX1 yX1_hasMill yX1_hasMill, .initialized RX1, .code yX1_hasMill cX1_hasMill 1 (some .boolean), .fieldLink RX1 30 "ArchWater$Arch" "appetite" "I"] ++ wsX10)
def wsX1_wearBy : List Cond := .code yX1_wearBy cX1_wearBy 2 none :: ([.fieldLink RX1 21 "ArchWater$Arch" "wear" "I", .methodLink RX1 46 Lib.Math.min.name, .static Lib.Math.min.name, .initialized "java/lang/Math", .code Lib.Math.min.name Lib.Math.min.code 2 (some .int)] ++ wsX10)
def wsX1_wearOfDay : List Cond := .code yX1_wearOfDay cX1_wearOfDay 1 none :: ([.fieldLink RX1 18 "ArchWater$Arch" "water" "I", .methodLink RX1 52 yX1_hasOpenSluice, .instanceMethod yX1_hasOpenSluice, .selects RX1 yX1_hasOpenSluice yX1_hasOpenSluice, .initialized RX1, .code yX1_hasOpenSluice cX1_hasOpenSluice 1 (some .boolean), .fieldLink RX1 33 "ArchWater$Arch" "tenths" "I", .methodLink RX1 42 yX1_hasMill, .instanceMethod yX1_hasMill, .selects RX1 yX1_hasMill yX1_hasMill, .code yX1_hasMill cX1_hasMill 1 (some .boolean), .fieldLink RX1 30 "ArchWater$Arch" "appetite" "I", .methodLink RX1 55 yX1_wearBy, .instanceMethod yX1_wearBy, .selects RX1 yX1_wearBy yX1_wearBy, .code yX1_wearBy cX1_wearBy 2 none, .fieldLink RX1 21 "ArchWater$Arch" "wear" "I", .methodLink RX1 46 Lib.Math.min.name, .static Lib.Math.min.name, .initialized "java/lang/Math", .code Lib.Math.min.name Lib.Math.min.code 2 (some .int)] ++ wsX10)
def wsX0_wearAll_r1 : List Cond := [Cond.fieldLink RX0 35 "ArchWater$Aqueduct" "arches" "I", Cond.fieldLink RX0 20 "ArchWater$Aqueduct" "row" "[LArchWater$Arch;", Cond.methodLink RX0 129 yX1_wearOfDay, Cond.instanceMethod yX1_wearOfDay, Cond.selects RX1 yX1_wearOfDay yX1_wearOfDay, Cond.initialized RX1, Cond.code yX1_wearOfDay cX1_wearOfDay 1 none, Cond.fieldLink RX1 18 "ArchWater$Arch" "water" "I", Cond.methodLink RX1 52 yX1_hasOpenSluice, Cond.instanceMethod yX1_hasOpenSluice, Cond.selects RX1 yX1_hasOpenSluice yX1_hasOpenSluice, Cond.code yX1_hasOpenSluice cX1_hasOpenSluice 1 (some .boolean), Cond.fieldLink RX1 33 "ArchWater$Arch" "tenths" "I", Cond.methodLink RX1 42 yX1_hasMill, Cond.instanceMethod yX1_hasMill, Cond.selects RX1 yX1_hasMill yX1_hasMill, Cond.code yX1_hasMill cX1_hasMill 1 (some .boolean), Cond.fieldLink RX1 30 "ArchWater$Arch" "appetite" "I", Cond.methodLink RX1 55 yX1_wearBy, Cond.instanceMethod yX1_wearBy, Cond.selects RX1 yX1_wearBy yX1_wearBy, Cond.code yX1_wearBy cX1_wearBy 2 none, Cond.fieldLink RX1 21 "ArchWater$Arch" "wear" "I", Cond.methodLink RX1 46 Lib.Math.min.name]
def wsX0_wearAll_r2 : List Cond := [Cond.static Lib.Math.min.name, Cond.initialized "java/lang/Math", Cond.code Lib.Math.min.name Lib.Math.min.code 2 (some .int)]
def wsX0_wearAll : List Cond := .code yX0_wearAll cX0_wearAll 2 none :: ((wsX0_wearAll_r1 ++ wsX0_wearAll_r2) ++ wsX00 ++ wsX10)
def wsX0_goOnAnHour_r1 : List Cond := [Cond.fieldLink RX0 42 "ArchWater$Aqueduct" "hour" "I", Cond.fieldLink RX0 15 "ArchWater$Aqueduct" "cityTable" "[I", Cond.fieldLink RX0 35 "ArchWater$Aqueduct" "arches" "I", Cond.fieldLink RX0 9 "ArchWater$Aqueduct" "springTable" "[I", Cond.fieldLink RX0 20 "ArchWater$Aqueduct" "row" "[LArchWater$Arch;", Cond.methodLink RX0 81 yJ9_floorMod_7cf53, Cond.static yJ9_floorMod_7cf53, Cond.initialized RJ9, Cond.code yJ9_floorMod_7cf53 cJ9_floorMod_7cf53 3 (some .int), Cond.methodLink RX0 84 yX0_letCityDrink, Cond.instanceMethod yX0_letCityDrink, Cond.selects RX0 yX0_letCityDrink yX0_letCityDrink, Cond.initialized RX0, Cond.code yX0_letCityDrink cX0_letCityDrink 3 none, Cond.fieldLink RX0 48 "ArchWater$Aqueduct" "cistern" "I", Cond.methodLink RX0 103 Lib.Math.min.name, Cond.static Lib.Math.min.name, Cond.initialized "java/lang/Math", Cond.code Lib.Math.min.name Lib.Math.min.code 2 (some .int), Cond.fieldLink RX0 60 "ArchWater$Aqueduct" "drunk" "I", Cond.fieldLink RX0 63 "ArchWater$Aqueduct" "thirst" "I", Cond.methodLink RX0 88 yX0_sendOn, Cond.instanceMethod yX0_sendOn, Cond.selects RX0 yX0_sendOn yX0_sendOn]
def wsX0_goOnAnHour_r2 : List Cond := [Cond.code yX0_sendOn cX0_sendOn 5 none, Cond.fieldLink RX0 106 "ArchWater$Arch" "water" "I", Cond.methodLink RX0 109 yX0_rate, Cond.instanceMethod yX0_rate, Cond.selects RX0 yX0_rate yX0_rate, Cond.code yX0_rate cX0_rate 2 (some .int), Cond.methodLink RX0 132 yX0_slope, Cond.instanceMethod yX0_slope, Cond.selects RX0 yX0_slope yX0_slope, Cond.code yX0_slope cX0_slope 3 (some .int), Cond.fieldLink RX0 66 "ArchWater$Arch" "height" "I", Cond.methodLink RX0 113 yX1_leadToMill, Cond.instanceMethod yX1_leadToMill, Cond.selects RX1 yX1_leadToMill yX1_leadToMill, Cond.initialized RX1, Cond.code yX1_leadToMill cX1_leadToMill 2 (some .int), Cond.fieldLink RX1 33 "ArchWater$Arch" "tenths" "I", Cond.fieldLink RX1 30 "ArchWater$Arch" "appetite" "I", Cond.methodLink RX1 46 Lib.Math.min.name, Cond.fieldLink RX1 39 "ArchWater$Arch" "took" "I", Cond.fieldLink RX1 18 "ArchWater$Arch" "water" "I", Cond.methodLink RX0 116 yX0_pour, Cond.instanceMethod yX0_pour, Cond.selects RX0 yX0_pour yX0_pour]
def wsX0_goOnAnHour_r3 : List Cond := [Cond.code yX0_pour cX0_pour 4 (some .int), Cond.fieldLink RX0 24 "ArchWater$Aqueduct" "holds" "I", Cond.methodLink RX0 126 yX1_fill, Cond.instanceMethod yX1_fill, Cond.selects RX1 yX1_fill yX1_fill, Cond.code yX1_fill cX1_fill 3 (some .int), Cond.fieldLink RX1 15 "ArchWater$Arch" "size" "I", Cond.methodLink RX0 91 yX0_grindAt, Cond.instanceMethod yX0_grindAt, Cond.selects RX0 yX0_grindAt yX0_grindAt, Cond.code yX0_grindAt cX0_grindAt 4 none, Cond.fieldLink RX0 119 "ArchWater$Arch" "took" "I", Cond.fieldLink RX0 45 "ArchWater$Aqueduct" "coins" "I", Cond.fieldLink RX0 54 "ArchWater$Aqueduct" "spilt" "I", Cond.fieldLink RX0 57 "ArchWater$Aqueduct" "used" "I", Cond.methodLink RX0 122 yX1_grind, Cond.instanceMethod yX1_grind, Cond.selects RX1 yX1_grind yX1_grind, Cond.code yX1_grind cX1_grind 2 (some .int), Cond.fieldLink RX1 36 "ArchWater$Arch" "flour" "I", Cond.methodLink RX0 94 yX0_letSpringGive, Cond.instanceMethod yX0_letSpringGive, Cond.selects RX0 yX0_letSpringGive yX0_letSpringGive, Cond.code yX0_letSpringGive cX0_letSpringGive 3 none]
def wsX0_goOnAnHour_r4 : List Cond := [Cond.fieldLink RX0 51 "ArchWater$Aqueduct" "given" "I", Cond.methodLink RX0 97 yX1_leak, Cond.instanceMethod yX1_leak, Cond.selects RX1 yX1_leak yX1_leak, Cond.code yX1_leak cX1_leak 2 none, Cond.fieldLink RX1 24 "ArchWater$Arch" "drops" "I", Cond.fieldLink RX1 21 "ArchWater$Arch" "wear" "I", Cond.fieldLink RX1 27 "ArchWater$Arch" "leaked" "I", Cond.methodLink RX0 100 yX0_wearAll, Cond.instanceMethod yX0_wearAll, Cond.selects RX0 yX0_wearAll yX0_wearAll, Cond.code yX0_wearAll cX0_wearAll 2 none, Cond.methodLink RX0 129 yX1_wearOfDay, Cond.instanceMethod yX1_wearOfDay, Cond.selects RX1 yX1_wearOfDay yX1_wearOfDay, Cond.code yX1_wearOfDay cX1_wearOfDay 1 none, Cond.methodLink RX1 52 yX1_hasOpenSluice, Cond.instanceMethod yX1_hasOpenSluice, Cond.selects RX1 yX1_hasOpenSluice yX1_hasOpenSluice, Cond.code yX1_hasOpenSluice cX1_hasOpenSluice 1 (some .boolean), Cond.methodLink RX1 42 yX1_hasMill, Cond.instanceMethod yX1_hasMill, Cond.selects RX1 yX1_hasMill yX1_hasMill, Cond.code yX1_hasMill cX1_hasMill 1 (some .boolean)]
def wsX0_goOnAnHour_r5 : List Cond := [Cond.methodLink RX1 55 yX1_wearBy, Cond.instanceMethod yX1_wearBy, Cond.selects RX1 yX1_wearBy yX1_wearBy, Cond.code yX1_wearBy cX1_wearBy 2 none]
def wsX0_goOnAnHour : List Cond := .code yX0_goOnAnHour cX0_goOnAnHour 3 none :: ((wsX0_goOnAnHour_r1 ++ (wsX0_goOnAnHour_r2 ++ (wsX0_goOnAnHour_r3 ++ (wsX0_goOnAnHour_r4 ++ wsX0_goOnAnHour_r5)))) ++ wsX00 ++ wsX10)
def wsX0_goOn_r1 : List Cond := [Cond.methodLink RX0 78 yX0_goOnAnHour, Cond.instanceMethod yX0_goOnAnHour, Cond.selects RX0 yX0_goOnAnHour yX0_goOnAnHour, Cond.initialized RX0, Cond.code yX0_goOnAnHour cX0_goOnAnHour 3 none, Cond.fieldLink RX0 42 "ArchWater$Aqueduct" "hour" "I", Cond.fieldLink RX0 15 "ArchWater$Aqueduct" "cityTable" "[I", Cond.fieldLink RX0 35 "ArchWater$Aqueduct" "arches" "I", Cond.fieldLink RX0 9 "ArchWater$Aqueduct" "springTable" "[I", Cond.fieldLink RX0 20 "ArchWater$Aqueduct" "row" "[LArchWater$Arch;", Cond.methodLink RX0 81 yJ9_floorMod_7cf53, Cond.static yJ9_floorMod_7cf53, Cond.initialized RJ9, Cond.code yJ9_floorMod_7cf53 cJ9_floorMod_7cf53 3 (some .int), Cond.methodLink RX0 84 yX0_letCityDrink, Cond.instanceMethod yX0_letCityDrink, Cond.selects RX0 yX0_letCityDrink yX0_letCityDrink, Cond.code yX0_letCityDrink cX0_letCityDrink 3 none, Cond.fieldLink RX0 48 "ArchWater$Aqueduct" "cistern" "I", Cond.methodLink RX0 103 Lib.Math.min.name, Cond.static Lib.Math.min.name, Cond.initialized "java/lang/Math", Cond.code Lib.Math.min.name Lib.Math.min.code 2 (some .int), Cond.fieldLink RX0 60 "ArchWater$Aqueduct" "drunk" "I"]
def wsX0_goOn_r2 : List Cond := [Cond.fieldLink RX0 63 "ArchWater$Aqueduct" "thirst" "I", Cond.methodLink RX0 88 yX0_sendOn, Cond.instanceMethod yX0_sendOn, Cond.selects RX0 yX0_sendOn yX0_sendOn, Cond.code yX0_sendOn cX0_sendOn 5 none, Cond.fieldLink RX0 106 "ArchWater$Arch" "water" "I", Cond.methodLink RX0 109 yX0_rate, Cond.instanceMethod yX0_rate, Cond.selects RX0 yX0_rate yX0_rate, Cond.code yX0_rate cX0_rate 2 (some .int), Cond.methodLink RX0 132 yX0_slope, Cond.instanceMethod yX0_slope, Cond.selects RX0 yX0_slope yX0_slope, Cond.code yX0_slope cX0_slope 3 (some .int), Cond.fieldLink RX0 66 "ArchWater$Arch" "height" "I", Cond.methodLink RX0 113 yX1_leadToMill, Cond.instanceMethod yX1_leadToMill, Cond.selects RX1 yX1_leadToMill yX1_leadToMill, Cond.initialized RX1, Cond.code yX1_leadToMill cX1_leadToMill 2 (some .int), Cond.fieldLink RX1 33 "ArchWater$Arch" "tenths" "I", Cond.fieldLink RX1 30 "ArchWater$Arch" "appetite" "I", Cond.methodLink RX1 46 Lib.Math.min.name, Cond.fieldLink RX1 39 "ArchWater$Arch" "took" "I"]
def wsX0_goOn_r3 : List Cond := [Cond.fieldLink RX1 18 "ArchWater$Arch" "water" "I", Cond.methodLink RX0 116 yX0_pour, Cond.instanceMethod yX0_pour, Cond.selects RX0 yX0_pour yX0_pour, Cond.code yX0_pour cX0_pour 4 (some .int), Cond.fieldLink RX0 24 "ArchWater$Aqueduct" "holds" "I", Cond.methodLink RX0 126 yX1_fill, Cond.instanceMethod yX1_fill, Cond.selects RX1 yX1_fill yX1_fill, Cond.code yX1_fill cX1_fill 3 (some .int), Cond.fieldLink RX1 15 "ArchWater$Arch" "size" "I", Cond.methodLink RX0 91 yX0_grindAt, Cond.instanceMethod yX0_grindAt, Cond.selects RX0 yX0_grindAt yX0_grindAt, Cond.code yX0_grindAt cX0_grindAt 4 none, Cond.fieldLink RX0 119 "ArchWater$Arch" "took" "I", Cond.fieldLink RX0 45 "ArchWater$Aqueduct" "coins" "I", Cond.fieldLink RX0 54 "ArchWater$Aqueduct" "spilt" "I", Cond.fieldLink RX0 57 "ArchWater$Aqueduct" "used" "I", Cond.methodLink RX0 122 yX1_grind, Cond.instanceMethod yX1_grind, Cond.selects RX1 yX1_grind yX1_grind, Cond.code yX1_grind cX1_grind 2 (some .int), Cond.fieldLink RX1 36 "ArchWater$Arch" "flour" "I"]
def wsX0_goOn_r4 : List Cond := [Cond.methodLink RX0 94 yX0_letSpringGive, Cond.instanceMethod yX0_letSpringGive, Cond.selects RX0 yX0_letSpringGive yX0_letSpringGive, Cond.code yX0_letSpringGive cX0_letSpringGive 3 none, Cond.fieldLink RX0 51 "ArchWater$Aqueduct" "given" "I", Cond.methodLink RX0 97 yX1_leak, Cond.instanceMethod yX1_leak, Cond.selects RX1 yX1_leak yX1_leak, Cond.code yX1_leak cX1_leak 2 none, Cond.fieldLink RX1 24 "ArchWater$Arch" "drops" "I", Cond.fieldLink RX1 21 "ArchWater$Arch" "wear" "I", Cond.fieldLink RX1 27 "ArchWater$Arch" "leaked" "I", Cond.methodLink RX0 100 yX0_wearAll, Cond.instanceMethod yX0_wearAll, Cond.selects RX0 yX0_wearAll yX0_wearAll, Cond.code yX0_wearAll cX0_wearAll 2 none, Cond.methodLink RX0 129 yX1_wearOfDay, Cond.instanceMethod yX1_wearOfDay, Cond.selects RX1 yX1_wearOfDay yX1_wearOfDay, Cond.code yX1_wearOfDay cX1_wearOfDay 1 none, Cond.methodLink RX1 52 yX1_hasOpenSluice, Cond.instanceMethod yX1_hasOpenSluice, Cond.selects RX1 yX1_hasOpenSluice yX1_hasOpenSluice, Cond.code yX1_hasOpenSluice cX1_hasOpenSluice 1 (some .boolean)]
def wsX0_goOn_r5 : List Cond := [Cond.methodLink RX1 42 yX1_hasMill, Cond.instanceMethod yX1_hasMill, Cond.selects RX1 yX1_hasMill yX1_hasMill, Cond.code yX1_hasMill cX1_hasMill 1 (some .boolean), Cond.methodLink RX1 55 yX1_wearBy, Cond.instanceMethod yX1_wearBy, Cond.selects RX1 yX1_wearBy yX1_wearBy, Cond.code yX1_wearBy cX1_wearBy 2 none]
def wsX0_goOn : List Cond := .code yX0_goOn cX0_goOn 3 none :: ((wsX0_goOn_r1 ++ (wsX0_goOn_r2 ++ (wsX0_goOn_r3 ++ (wsX0_goOn_r4 ++ wsX0_goOn_r5)))) ++ wsX00 ++ wsX10)
def wsX0_mills : List Cond := .code yX0_mills cX0_mills 3 (some .int) :: ([.fieldLink RX0 35 "ArchWater$Aqueduct" "arches" "I", .fieldLink RX0 20 "ArchWater$Aqueduct" "row" "[LArchWater$Arch;", .methodLink RX0 135 yX1_hasMill, .instanceMethod yX1_hasMill, .selects RX1 yX1_hasMill yX1_hasMill, .initialized RX1, .code yX1_hasMill cX1_hasMill 1 (some .boolean), .fieldLink RX1 30 "ArchWater$Arch" "appetite" "I"] ++ wsX00 ++ wsX10)
def wsX0_water : List Cond := .code yX0_water cX0_water 3 (some .int) :: ([.fieldLink RX0 35 "ArchWater$Aqueduct" "arches" "I", .fieldLink RX0 20 "ArchWater$Aqueduct" "row" "[LArchWater$Arch;", .fieldLink RX0 106 "ArchWater$Arch" "water" "I"] ++ wsX00 ++ wsX10)
def wsX0_leaked : List Cond := .code yX0_leaked cX0_leaked 3 (some .int) :: ([.fieldLink RX0 35 "ArchWater$Aqueduct" "arches" "I", .fieldLink RX0 20 "ArchWater$Aqueduct" "row" "[LArchWater$Arch;", .fieldLink RX0 139 "ArchWater$Arch" "leaked" "I"] ++ wsX00 ++ wsX10)
def wsX0_flour : List Cond := .code yX0_flour cX0_flour 3 (some .int) :: ([.fieldLink RX0 35 "ArchWater$Aqueduct" "arches" "I", .fieldLink RX0 20 "ArchWater$Aqueduct" "row" "[LArchWater$Arch;", .fieldLink RX0 142 "ArchWater$Arch" "flour" "I"] ++ wsX00 ++ wsX10)
def wsX0_archNumber_r1 : List Cond := [Cond.fieldLink RX0 20 "ArchWater$Aqueduct" "row" "[LArchWater$Arch;", Cond.fieldLink RX0 66 "ArchWater$Arch" "height" "I", Cond.fieldLink RX0 69 "ArchWater$Arch" "size" "I", Cond.fieldLink RX0 106 "ArchWater$Arch" "water" "I", Cond.fieldLink RX0 145 "ArchWater$Arch" "wear" "I", Cond.fieldLink RX0 148 "ArchWater$Arch" "drops" "I", Cond.fieldLink RX0 139 "ArchWater$Arch" "leaked" "I", Cond.methodLink RX0 132 yX0_slope, Cond.instanceMethod yX0_slope, Cond.selects RX0 yX0_slope yX0_slope, Cond.initialized RX0, Cond.code yX0_slope cX0_slope 3 (some .int), Cond.fieldLink RX0 35 "ArchWater$Aqueduct" "arches" "I", Cond.methodLink RX0 109 yX0_rate, Cond.instanceMethod yX0_rate, Cond.selects RX0 yX0_rate yX0_rate, Cond.code yX0_rate cX0_rate 2 (some .int), Cond.methodLink RX0 103 Lib.Math.min.name, Cond.static Lib.Math.min.name, Cond.initialized "java/lang/Math", Cond.code Lib.Math.min.name Lib.Math.min.code 2 (some .int), Cond.methodLink RX0 135 yX1_hasMill, Cond.instanceMethod yX1_hasMill, Cond.selects RX1 yX1_hasMill yX1_hasMill]
def wsX0_archNumber_r2 : List Cond := [Cond.initialized RX1, Cond.code yX1_hasMill cX1_hasMill 1 (some .boolean), Cond.fieldLink RX1 30 "ArchWater$Arch" "appetite" "I"]
def wsX0_archNumber : List Cond := .code yX0_archNumber cX0_archNumber 4 (some .int) :: ((wsX0_archNumber_r1 ++ wsX0_archNumber_r2) ++ wsX00 ++ wsX10)
def wsX0_countNumber_r1 : List Cond := [Cond.fieldLink RX0 42 "ArchWater$Aqueduct" "hour" "I", Cond.fieldLink RX0 35 "ArchWater$Aqueduct" "arches" "I", Cond.fieldLink RX0 45 "ArchWater$Aqueduct" "coins" "I", Cond.fieldLink RX0 48 "ArchWater$Aqueduct" "cistern" "I", Cond.fieldLink RX0 51 "ArchWater$Aqueduct" "given" "I", Cond.fieldLink RX0 54 "ArchWater$Aqueduct" "spilt" "I", Cond.fieldLink RX0 57 "ArchWater$Aqueduct" "used" "I", Cond.fieldLink RX0 60 "ArchWater$Aqueduct" "drunk" "I", Cond.fieldLink RX0 63 "ArchWater$Aqueduct" "thirst" "I", Cond.methodLink RX0 151 yX0_mills, Cond.instanceMethod yX0_mills, Cond.selects RX0 yX0_mills yX0_mills, Cond.initialized RX0, Cond.code yX0_mills cX0_mills 3 (some .int), Cond.fieldLink RX0 20 "ArchWater$Aqueduct" "row" "[LArchWater$Arch;", Cond.methodLink RX0 135 yX1_hasMill, Cond.instanceMethod yX1_hasMill, Cond.selects RX1 yX1_hasMill yX1_hasMill, Cond.initialized RX1, Cond.code yX1_hasMill cX1_hasMill 1 (some .boolean), Cond.fieldLink RX1 30 "ArchWater$Arch" "appetite" "I", Cond.methodLink RX0 154 yX0_water, Cond.instanceMethod yX0_water, Cond.selects RX0 yX0_water yX0_water]
def wsX0_countNumber_r2 : List Cond := [Cond.code yX0_water cX0_water 3 (some .int), Cond.fieldLink RX0 106 "ArchWater$Arch" "water" "I", Cond.methodLink RX0 156 yX0_leaked, Cond.instanceMethod yX0_leaked, Cond.selects RX0 yX0_leaked yX0_leaked, Cond.code yX0_leaked cX0_leaked 3 (some .int), Cond.fieldLink RX0 139 "ArchWater$Arch" "leaked" "I"]
def wsX0_countNumber : List Cond := .code yX0_countNumber cX0_countNumber 2 (some .int) :: ((wsX0_countNumber_r1 ++ wsX0_countNumber_r2) ++ wsX00 ++ wsX10)
def wsX1_millNumber : List Cond := .code yX1_millNumber cX1_millNumber 2 (some .int) :: ([.fieldLink RX1 30 "ArchWater$Arch" "appetite" "I", .fieldLink RX1 33 "ArchWater$Arch" "tenths" "I", .fieldLink RX1 36 "ArchWater$Arch" "flour" "I", .fieldLink RX1 39 "ArchWater$Arch" "took" "I", .methodLink RX1 42 yX1_hasMill, .instanceMethod yX1_hasMill, .selects RX1 yX1_hasMill yX1_hasMill, .initialized RX1, .code yX1_hasMill cX1_hasMill 1 (some .boolean)] ++ wsX10)
def wsX2_init : List Cond := .code yX2_init cX2_init 1 none :: ([.methodLink RX2 1 objectInit, .instanceMethod objectInit, .code objectInit ⟨#[0xb1]⟩ 1 none, .classLink RX2 7 RX0, .instantiable RX0 13, .initialized RX0, .fieldLink RX2 10 "ArchWater" "now" "LArchWater$Aqueduct;", .fieldLink RX2 16 "ArchWater" "trial" "LArchWater$Aqueduct;", .methodLink RX2 9 yX0_init, .instanceMethod yX0_init, .code yX0_init cX0_init 2 none, .methodLink RX0 3 objectInit, .arrayClass .int, .fieldLink RX0 9 "ArchWater$Aqueduct" "springTable" "[I", .fieldLink RX0 15 "ArchWater$Aqueduct" "cityTable" "[I", .classLink RX0 18 RX1, .fieldLink RX0 20 "ArchWater$Aqueduct" "row" "[LArchWater$Arch;", .fieldLink RX0 24 "ArchWater$Aqueduct" "holds" "I", .instantiable RX1 10, .initialized RX1, .instanceMethod yX1_init, .code yX1_init cX1_init 1 none, .methodLink RX1 3 objectInit] ++ wsX00 ++ wsX20 ++ wsX10)
def wsX2_requireRange : List Cond := .code yX2_requireRange cX2_requireRange 3 none :: ([.classLink RX2 164 "java/lang/IllegalArgumentException", .initialized "java/lang/IllegalArgumentException"] ++ (vx_atS RX2 168 "java/lang/IllegalArgumentException" ["java/lang/RuntimeException", "java/lang/Exception"]).filter goodWord)
def wsX2_build : List Cond := .code yX2_build cX2_build 3 (some .int) :: ([.classLink RX2 31 "java/lang/IllegalStateException", .initialized "java/lang/IllegalStateException", .fieldLink RX2 10 "ArchWater" "now" "LArchWater$Aqueduct;", .fieldLink RX2 27 "ArchWater$Aqueduct" "arches" "I", .methodLink RX2 19 yX0_mostHeightOfNext, .instanceMethod yX0_mostHeightOfNext, .selects RX0 yX0_mostHeightOfNext yX0_mostHeightOfNext, .initialized RX0, .code yX0_mostHeightOfNext cX0_mostHeightOfNext 1 (some .int), .fieldLink RX0 35 "ArchWater$Aqueduct" "arches" "I", .fieldLink RX0 20 "ArchWater$Aqueduct" "row" "[LArchWater$Arch;", .fieldLink RX0 66 "ArchWater$Arch" "height" "I", .methodLink RX2 23 yX2_requireRange, .static yX2_requireRange, .initialized RX2, .code yX2_requireRange cX2_requireRange 3 none, .classLink RX2 164 "java/lang/IllegalArgumentException", .initialized "java/lang/IllegalArgumentException", .methodLink RX2 38 yX0_addArch, .instanceMethod yX0_addArch, .selects RX0 yX0_addArch yX0_addArch, .code yX0_addArch cX0_addArch 4 (some .int), .fieldLink RX0 69 "ArchWater$Arch" "size" "I"] ++ wsX20 ++ wsX00 ++ wsX10 ++ (vx_atS RX2 35 "java/lang/IllegalStateException" ["java/lang/RuntimeException", "java/lang/Exception"]).filter goodWord ++ (vx_atS RX2 168 "java/lang/IllegalArgumentException" ["java/lang/RuntimeException", "java/lang/Exception"]).filter goodWord)
def wsX2_requireIndex : List Cond := .code yX2_requireIndex cX2_requireIndex 2 none :: ([.classLink RX2 159 "java/lang/IndexOutOfBoundsException", .initialized "java/lang/IndexOutOfBoundsException"] ++ (vx_atS RX2 163 "java/lang/IndexOutOfBoundsException" ["java/lang/RuntimeException", "java/lang/Exception"]).filter goodWord)
def wsX2_setHour : List Cond := .code yX2_setHour cX2_setHour 4 (some .int) :: ([.methodLink RX2 61 yX2_requireIndex, .static yX2_requireIndex, .initialized RX2, .code yX2_requireIndex cX2_requireIndex 2 none, .classLink RX2 159 "java/lang/IndexOutOfBoundsException", .initialized "java/lang/IndexOutOfBoundsException", .methodLink RX2 23 yX2_requireRange, .static yX2_requireRange, .code yX2_requireRange cX2_requireRange 3 none, .classLink RX2 164 "java/lang/IllegalArgumentException", .initialized "java/lang/IllegalArgumentException"] ++ (vx_atS RX2 163 "java/lang/IndexOutOfBoundsException" ["java/lang/RuntimeException", "java/lang/Exception"]).filter goodWord ++ (vx_atS RX2 168 "java/lang/IllegalArgumentException" ["java/lang/RuntimeException", "java/lang/Exception"]).filter goodWord)
def wsX2_setSpring : List Cond := .code yX2_setSpring cX2_setSpring 3 (some .int) :: ([.fieldLink RX2 10 "ArchWater" "now" "LArchWater$Aqueduct;", .fieldLink RX2 42 "ArchWater$Aqueduct" "springTable" "[I", .methodLink RX2 46 yX2_setHour, .static yX2_setHour, .initialized RX2, .code yX2_setHour cX2_setHour 4 (some .int), .methodLink RX2 61 yX2_requireIndex, .static yX2_requireIndex, .code yX2_requireIndex cX2_requireIndex 2 none, .classLink RX2 159 "java/lang/IndexOutOfBoundsException", .initialized "java/lang/IndexOutOfBoundsException", .methodLink RX2 23 yX2_requireRange, .static yX2_requireRange, .code yX2_requireRange cX2_requireRange 3 none, .classLink RX2 164 "java/lang/IllegalArgumentException", .initialized "java/lang/IllegalArgumentException"] ++ wsX20 ++ wsX00 ++ (vx_atS RX2 163 "java/lang/IndexOutOfBoundsException" ["java/lang/RuntimeException", "java/lang/Exception"]).filter goodWord ++ (vx_atS RX2 168 "java/lang/IllegalArgumentException" ["java/lang/RuntimeException", "java/lang/Exception"]).filter goodWord)
def wsX2_setCity : List Cond := .code yX2_setCity cX2_setCity 3 (some .int) :: ([.fieldLink RX2 10 "ArchWater" "now" "LArchWater$Aqueduct;", .fieldLink RX2 50 "ArchWater$Aqueduct" "cityTable" "[I", .methodLink RX2 46 yX2_setHour, .static yX2_setHour, .initialized RX2, .code yX2_setHour cX2_setHour 4 (some .int), .methodLink RX2 61 yX2_requireIndex, .static yX2_requireIndex, .code yX2_requireIndex cX2_requireIndex 2 none, .classLink RX2 159 "java/lang/IndexOutOfBoundsException", .initialized "java/lang/IndexOutOfBoundsException", .methodLink RX2 23 yX2_requireRange, .static yX2_requireRange, .code yX2_requireRange cX2_requireRange 3 none, .classLink RX2 164 "java/lang/IllegalArgumentException", .initialized "java/lang/IllegalArgumentException"] ++ wsX20 ++ wsX00 ++ (vx_atS RX2 163 "java/lang/IndexOutOfBoundsException" ["java/lang/RuntimeException", "java/lang/Exception"]).filter goodWord ++ (vx_atS RX2 168 "java/lang/IllegalArgumentException" ["java/lang/RuntimeException", "java/lang/Exception"]).filter goodWord)
def wsX2_setCistern : List Cond := .code yX2_setCistern cX2_setCistern 2 (some .int) :: ([.fieldLink RX2 10 "ArchWater" "now" "LArchWater$Aqueduct;", .methodLink RX2 23 yX2_requireRange, .static yX2_requireRange, .initialized RX2, .code yX2_requireRange cX2_requireRange 3 none, .classLink RX2 164 "java/lang/IllegalArgumentException", .initialized "java/lang/IllegalArgumentException", .methodLink RX2 53 yX0_resizeCistern, .instanceMethod yX0_resizeCistern, .selects RX0 yX0_resizeCistern yX0_resizeCistern, .initialized RX0, .code yX0_resizeCistern cX0_resizeCistern 3 (some .int), .fieldLink RX0 48 "ArchWater$Aqueduct" "cistern" "I", .methodLink RX0 72 Lib.Math.max.name, .static Lib.Math.max.name, .initialized "java/lang/Math", .code Lib.Math.max.name Lib.Math.max.code 2 (some .int), .fieldLink RX0 24 "ArchWater$Aqueduct" "holds" "I", .fieldLink RX0 54 "ArchWater$Aqueduct" "spilt" "I"] ++ wsX20 ++ wsX00 ++ (vx_atS RX2 168 "java/lang/IllegalArgumentException" ["java/lang/RuntimeException", "java/lang/Exception"]).filter goodWord)
def wsX2_requireArch : List Cond := .code yX2_requireArch cX2_requireArch 2 none :: ([.fieldLink RX2 10 "ArchWater" "now" "LArchWater$Aqueduct;", .fieldLink RX2 27 "ArchWater$Aqueduct" "arches" "I", .methodLink RX2 61 yX2_requireIndex, .static yX2_requireIndex, .initialized RX2, .code yX2_requireIndex cX2_requireIndex 2 none, .classLink RX2 159 "java/lang/IndexOutOfBoundsException", .initialized "java/lang/IndexOutOfBoundsException"] ++ wsX20 ++ wsX00 ++ (vx_atS RX2 163 "java/lang/IndexOutOfBoundsException" ["java/lang/RuntimeException", "java/lang/Exception"]).filter goodWord)
def wsX2_arch_r1 : List Cond := [Cond.fieldLink RX2 10 "ArchWater" "now" "LArchWater$Aqueduct;", Cond.methodLink RX2 57 yX2_requireArch, Cond.instanceMethod yX2_requireArch, Cond.selects RX2 yX2_requireArch yX2_requireArch, Cond.initialized RX2, Cond.code yX2_requireArch cX2_requireArch 2 none, Cond.fieldLink RX2 27 "ArchWater$Aqueduct" "arches" "I", Cond.methodLink RX2 61 yX2_requireIndex, Cond.static yX2_requireIndex, Cond.code yX2_requireIndex cX2_requireIndex 2 none, Cond.classLink RX2 159 "java/lang/IndexOutOfBoundsException", Cond.initialized "java/lang/IndexOutOfBoundsException", Cond.methodLink RX2 65 yX0_archNumber, Cond.instanceMethod yX0_archNumber, Cond.selects RX0 yX0_archNumber yX0_archNumber, Cond.initialized RX0, Cond.code yX0_archNumber cX0_archNumber 4 (some .int), Cond.fieldLink RX0 20 "ArchWater$Aqueduct" "row" "[LArchWater$Arch;", Cond.fieldLink RX0 66 "ArchWater$Arch" "height" "I", Cond.fieldLink RX0 69 "ArchWater$Arch" "size" "I", Cond.fieldLink RX0 106 "ArchWater$Arch" "water" "I", Cond.fieldLink RX0 145 "ArchWater$Arch" "wear" "I", Cond.fieldLink RX0 148 "ArchWater$Arch" "drops" "I", Cond.fieldLink RX0 139 "ArchWater$Arch" "leaked" "I"]
def wsX2_arch_r2 : List Cond := [Cond.methodLink RX0 132 yX0_slope, Cond.instanceMethod yX0_slope, Cond.selects RX0 yX0_slope yX0_slope, Cond.code yX0_slope cX0_slope 3 (some .int), Cond.fieldLink RX0 35 "ArchWater$Aqueduct" "arches" "I", Cond.methodLink RX0 109 yX0_rate, Cond.instanceMethod yX0_rate, Cond.selects RX0 yX0_rate yX0_rate, Cond.code yX0_rate cX0_rate 2 (some .int), Cond.methodLink RX0 103 Lib.Math.min.name, Cond.static Lib.Math.min.name, Cond.initialized "java/lang/Math", Cond.code Lib.Math.min.name Lib.Math.min.code 2 (some .int), Cond.methodLink RX0 135 yX1_hasMill, Cond.instanceMethod yX1_hasMill, Cond.selects RX1 yX1_hasMill yX1_hasMill, Cond.initialized RX1, Cond.code yX1_hasMill cX1_hasMill 1 (some .boolean), Cond.fieldLink RX1 30 "ArchWater$Arch" "appetite" "I"]
def wsX2_arch : List Cond := .code yX2_arch cX2_arch 3 (some .int) :: ((wsX2_arch_r1 ++ wsX2_arch_r2) ++ wsX20 ++ wsX00 ++ wsX10 ++ (vx_atS RX2 163 "java/lang/IndexOutOfBoundsException" ["java/lang/RuntimeException", "java/lang/Exception"]).filter goodWord)
def wsX2_addMill_r1 : List Cond := [Cond.classLink RX2 31 "java/lang/IllegalStateException", Cond.initialized "java/lang/IllegalStateException", Cond.fieldLink RX2 10 "ArchWater" "now" "LArchWater$Aqueduct;", Cond.fieldLink RX2 80 "ArchWater$Arch" "appetite" "I", Cond.methodLink RX2 57 yX2_requireArch, Cond.instanceMethod yX2_requireArch, Cond.selects RX2 yX2_requireArch yX2_requireArch, Cond.initialized RX2, Cond.code yX2_requireArch cX2_requireArch 2 none, Cond.fieldLink RX2 27 "ArchWater$Aqueduct" "arches" "I", Cond.methodLink RX2 61 yX2_requireIndex, Cond.static yX2_requireIndex, Cond.code yX2_requireIndex cX2_requireIndex 2 none, Cond.classLink RX2 159 "java/lang/IndexOutOfBoundsException", Cond.initialized "java/lang/IndexOutOfBoundsException", Cond.methodLink RX2 23 yX2_requireRange, Cond.static yX2_requireRange, Cond.code yX2_requireRange cX2_requireRange 3 none, Cond.classLink RX2 164 "java/lang/IllegalArgumentException", Cond.initialized "java/lang/IllegalArgumentException", Cond.methodLink RX2 68 yX0_archAt, Cond.instanceMethod yX0_archAt, Cond.selects RX0 yX0_archAt yX0_archAt, Cond.initialized RX0]
def wsX2_addMill_r2 : List Cond := [Cond.code yX0_archAt cX0_archAt 2 (some (.object "ArchWater$Arch")), Cond.fieldLink RX0 20 "ArchWater$Aqueduct" "row" "[LArchWater$Arch;", Cond.methodLink RX2 72 yX1_hasMill, Cond.instanceMethod yX1_hasMill, Cond.selects RX1 yX1_hasMill yX1_hasMill, Cond.initialized RX1, Cond.code yX1_hasMill cX1_hasMill 1 (some .boolean), Cond.fieldLink RX1 30 "ArchWater$Arch" "appetite" "I", Cond.methodLink RX2 83 yX0_mills, Cond.instanceMethod yX0_mills, Cond.selects RX0 yX0_mills yX0_mills, Cond.code yX0_mills cX0_mills 3 (some .int), Cond.fieldLink RX0 35 "ArchWater$Aqueduct" "arches" "I", Cond.methodLink RX0 135 yX1_hasMill]
def wsX2_addMill : List Cond := .code yX2_addMill cX2_addMill 4 (some .int) :: ((wsX2_addMill_r1 ++ wsX2_addMill_r2) ++ wsX20 ++ wsX10 ++ wsX00 ++ (vx_atS RX2 35 "java/lang/IllegalStateException" ["java/lang/RuntimeException", "java/lang/Exception"]).filter goodWord ++ (vx_atS RX2 163 "java/lang/IndexOutOfBoundsException" ["java/lang/RuntimeException", "java/lang/Exception"]).filter goodWord ++ (vx_atS RX2 168 "java/lang/IllegalArgumentException" ["java/lang/RuntimeException", "java/lang/Exception"]).filter goodWord)
def wsX2_setSluice_r1 : List Cond := [Cond.classLink RX2 31 "java/lang/IllegalStateException", Cond.initialized "java/lang/IllegalStateException", Cond.fieldLink RX2 10 "ArchWater" "now" "LArchWater$Aqueduct;", Cond.fieldLink RX2 88 "ArchWater$Arch" "tenths" "I", Cond.methodLink RX2 57 yX2_requireArch, Cond.instanceMethod yX2_requireArch, Cond.selects RX2 yX2_requireArch yX2_requireArch, Cond.initialized RX2, Cond.code yX2_requireArch cX2_requireArch 2 none, Cond.fieldLink RX2 27 "ArchWater$Aqueduct" "arches" "I", Cond.methodLink RX2 61 yX2_requireIndex, Cond.static yX2_requireIndex, Cond.code yX2_requireIndex cX2_requireIndex 2 none, Cond.classLink RX2 159 "java/lang/IndexOutOfBoundsException", Cond.initialized "java/lang/IndexOutOfBoundsException", Cond.methodLink RX2 23 yX2_requireRange, Cond.static yX2_requireRange, Cond.code yX2_requireRange cX2_requireRange 3 none, Cond.classLink RX2 164 "java/lang/IllegalArgumentException", Cond.initialized "java/lang/IllegalArgumentException", Cond.methodLink RX2 68 yX0_archAt, Cond.instanceMethod yX0_archAt, Cond.selects RX0 yX0_archAt yX0_archAt, Cond.initialized RX0]
def wsX2_setSluice_r2 : List Cond := [Cond.code yX0_archAt cX0_archAt 2 (some (.object "ArchWater$Arch")), Cond.fieldLink RX0 20 "ArchWater$Aqueduct" "row" "[LArchWater$Arch;", Cond.methodLink RX2 72 yX1_hasMill, Cond.instanceMethod yX1_hasMill, Cond.selects RX1 yX1_hasMill yX1_hasMill, Cond.initialized RX1, Cond.code yX1_hasMill cX1_hasMill 1 (some .boolean), Cond.fieldLink RX1 30 "ArchWater$Arch" "appetite" "I"]
def wsX2_setSluice : List Cond := .code yX2_setSluice cX2_setSluice 5 (some .int) :: ((wsX2_setSluice_r1 ++ wsX2_setSluice_r2) ++ wsX20 ++ wsX10 ++ wsX00 ++ (vx_atS RX2 35 "java/lang/IllegalStateException" ["java/lang/RuntimeException", "java/lang/Exception"]).filter goodWord ++ (vx_atS RX2 163 "java/lang/IndexOutOfBoundsException" ["java/lang/RuntimeException", "java/lang/Exception"]).filter goodWord ++ (vx_atS RX2 168 "java/lang/IllegalArgumentException" ["java/lang/RuntimeException", "java/lang/Exception"]).filter goodWord)
def wsX2_mill_r1 : List Cond := [Cond.fieldLink RX2 10 "ArchWater" "now" "LArchWater$Aqueduct;", Cond.methodLink RX2 57 yX2_requireArch, Cond.instanceMethod yX2_requireArch, Cond.selects RX2 yX2_requireArch yX2_requireArch, Cond.initialized RX2, Cond.code yX2_requireArch cX2_requireArch 2 none, Cond.fieldLink RX2 27 "ArchWater$Aqueduct" "arches" "I", Cond.methodLink RX2 61 yX2_requireIndex, Cond.static yX2_requireIndex, Cond.code yX2_requireIndex cX2_requireIndex 2 none, Cond.classLink RX2 159 "java/lang/IndexOutOfBoundsException", Cond.initialized "java/lang/IndexOutOfBoundsException", Cond.methodLink RX2 68 yX0_archAt, Cond.instanceMethod yX0_archAt, Cond.selects RX0 yX0_archAt yX0_archAt, Cond.initialized RX0, Cond.code yX0_archAt cX0_archAt 2 (some (.object "ArchWater$Arch")), Cond.fieldLink RX0 20 "ArchWater$Aqueduct" "row" "[LArchWater$Arch;", Cond.methodLink RX2 91 yX1_millNumber, Cond.instanceMethod yX1_millNumber, Cond.selects RX1 yX1_millNumber yX1_millNumber, Cond.initialized RX1, Cond.code yX1_millNumber cX1_millNumber 2 (some .int), Cond.fieldLink RX1 30 "ArchWater$Arch" "appetite" "I"]
def wsX2_mill_r2 : List Cond := [Cond.fieldLink RX1 33 "ArchWater$Arch" "tenths" "I", Cond.fieldLink RX1 36 "ArchWater$Arch" "flour" "I", Cond.fieldLink RX1 39 "ArchWater$Arch" "took" "I", Cond.methodLink RX1 42 yX1_hasMill, Cond.instanceMethod yX1_hasMill, Cond.selects RX1 yX1_hasMill yX1_hasMill, Cond.code yX1_hasMill cX1_hasMill 1 (some .boolean)]
def wsX2_mill : List Cond := .code yX2_mill cX2_mill 3 (some .int) :: ((wsX2_mill_r1 ++ wsX2_mill_r2) ++ wsX20 ++ wsX00 ++ wsX10 ++ (vx_atS RX2 163 "java/lang/IndexOutOfBoundsException" ["java/lang/RuntimeException", "java/lang/Exception"]).filter goodWord)
def wsX2_mend_r1 : List Cond := [Cond.classLink RX2 31 "java/lang/IllegalStateException", Cond.initialized "java/lang/IllegalStateException", Cond.fieldLink RX2 10 "ArchWater" "now" "LArchWater$Aqueduct;", Cond.fieldLink RX2 94 "ArchWater$Aqueduct" "coins" "I", Cond.fieldLink RX2 99 "ArchWater$Arch" "wear" "I", Cond.methodLink RX2 104 Lib.Math.max.name, Cond.static Lib.Math.max.name, Cond.initialized "java/lang/Math", Cond.code Lib.Math.max.name Lib.Math.max.code 2 (some .int), Cond.fieldLink RX2 109 "ArchWater$Arch" "drops" "I", Cond.methodLink RX2 57 yX2_requireArch, Cond.instanceMethod yX2_requireArch, Cond.selects RX2 yX2_requireArch yX2_requireArch, Cond.initialized RX2, Cond.code yX2_requireArch cX2_requireArch 2 none, Cond.fieldLink RX2 27 "ArchWater$Aqueduct" "arches" "I", Cond.methodLink RX2 61 yX2_requireIndex, Cond.static yX2_requireIndex, Cond.code yX2_requireIndex cX2_requireIndex 2 none, Cond.classLink RX2 159 "java/lang/IndexOutOfBoundsException", Cond.initialized "java/lang/IndexOutOfBoundsException", Cond.methodLink RX2 68 yX0_archAt, Cond.instanceMethod yX0_archAt, Cond.selects RX0 yX0_archAt yX0_archAt]
def wsX2_mend_r2 : List Cond := [Cond.initialized RX0, Cond.code yX0_archAt cX0_archAt 2 (some (.object "ArchWater$Arch")), Cond.fieldLink RX0 20 "ArchWater$Aqueduct" "row" "[LArchWater$Arch;"]
def wsX2_mend : List Cond := .code yX2_mend cX2_mend 3 (some .int) :: ((wsX2_mend_r1 ++ wsX2_mend_r2) ++ wsX20 ++ wsX00 ++ wsX10 ++ (vx_atS RX2 35 "java/lang/IllegalStateException" ["java/lang/RuntimeException", "java/lang/Exception"]).filter goodWord ++ (vx_atS RX2 163 "java/lang/IndexOutOfBoundsException" ["java/lang/RuntimeException", "java/lang/Exception"]).filter goodWord)
def wsX2_quake_r1 : List Cond := [Cond.fieldLink RX2 10 "ArchWater" "now" "LArchWater$Aqueduct;", Cond.fieldLink RX2 99 "ArchWater$Arch" "wear" "I", Cond.methodLink RX2 57 yX2_requireArch, Cond.instanceMethod yX2_requireArch, Cond.selects RX2 yX2_requireArch yX2_requireArch, Cond.initialized RX2, Cond.code yX2_requireArch cX2_requireArch 2 none, Cond.fieldLink RX2 27 "ArchWater$Aqueduct" "arches" "I", Cond.methodLink RX2 61 yX2_requireIndex, Cond.static yX2_requireIndex, Cond.code yX2_requireIndex cX2_requireIndex 2 none, Cond.classLink RX2 159 "java/lang/IndexOutOfBoundsException", Cond.initialized "java/lang/IndexOutOfBoundsException", Cond.methodLink RX2 23 yX2_requireRange, Cond.static yX2_requireRange, Cond.code yX2_requireRange cX2_requireRange 3 none, Cond.classLink RX2 164 "java/lang/IllegalArgumentException", Cond.initialized "java/lang/IllegalArgumentException", Cond.methodLink RX2 68 yX0_archAt, Cond.instanceMethod yX0_archAt, Cond.selects RX0 yX0_archAt yX0_archAt, Cond.initialized RX0, Cond.code yX0_archAt cX0_archAt 2 (some (.object "ArchWater$Arch")), Cond.fieldLink RX0 20 "ArchWater$Aqueduct" "row" "[LArchWater$Arch;"]
def wsX2_quake_r2 : List Cond := [Cond.methodLink RX2 112 yX1_wearBy, Cond.instanceMethod yX1_wearBy, Cond.selects RX1 yX1_wearBy yX1_wearBy, Cond.initialized RX1, Cond.code yX1_wearBy cX1_wearBy 2 none, Cond.fieldLink RX1 21 "ArchWater$Arch" "wear" "I", Cond.methodLink RX1 46 Lib.Math.min.name, Cond.static Lib.Math.min.name, Cond.initialized "java/lang/Math", Cond.code Lib.Math.min.name Lib.Math.min.code 2 (some .int)]
def wsX2_quake : List Cond := .code yX2_quake cX2_quake 4 (some .int) :: ((wsX2_quake_r1 ++ wsX2_quake_r2) ++ wsX20 ++ wsX10 ++ wsX00 ++ (vx_atS RX2 163 "java/lang/IndexOutOfBoundsException" ["java/lang/RuntimeException", "java/lang/Exception"]).filter goodWord ++ (vx_atS RX2 168 "java/lang/IllegalArgumentException" ["java/lang/RuntimeException", "java/lang/Exception"]).filter goodWord)
def wsX2_pass_r1 : List Cond := [Cond.fieldLink RX2 10 "ArchWater" "now" "LArchWater$Aqueduct;", Cond.fieldLink RX2 115 "ArchWater$Aqueduct" "thirst" "I", Cond.methodLink RX2 23 yX2_requireRange, Cond.static yX2_requireRange, Cond.initialized RX2, Cond.code yX2_requireRange cX2_requireRange 3 none, Cond.classLink RX2 164 "java/lang/IllegalArgumentException", Cond.initialized "java/lang/IllegalArgumentException", Cond.methodLink RX2 118 yX0_goOn, Cond.instanceMethod yX0_goOn, Cond.selects RX0 yX0_goOn yX0_goOn, Cond.initialized RX0, Cond.code yX0_goOn cX0_goOn 3 none, Cond.methodLink RX0 78 yX0_goOnAnHour, Cond.instanceMethod yX0_goOnAnHour, Cond.selects RX0 yX0_goOnAnHour yX0_goOnAnHour, Cond.code yX0_goOnAnHour cX0_goOnAnHour 3 none, Cond.fieldLink RX0 42 "ArchWater$Aqueduct" "hour" "I", Cond.fieldLink RX0 15 "ArchWater$Aqueduct" "cityTable" "[I", Cond.fieldLink RX0 35 "ArchWater$Aqueduct" "arches" "I", Cond.fieldLink RX0 9 "ArchWater$Aqueduct" "springTable" "[I", Cond.fieldLink RX0 20 "ArchWater$Aqueduct" "row" "[LArchWater$Arch;", Cond.methodLink RX0 81 yJ9_floorMod_7cf53, Cond.static yJ9_floorMod_7cf53]
def wsX2_pass_r2 : List Cond := [Cond.initialized RJ9, Cond.code yJ9_floorMod_7cf53 cJ9_floorMod_7cf53 3 (some .int), Cond.methodLink RX0 84 yX0_letCityDrink, Cond.instanceMethod yX0_letCityDrink, Cond.selects RX0 yX0_letCityDrink yX0_letCityDrink, Cond.code yX0_letCityDrink cX0_letCityDrink 3 none, Cond.fieldLink RX0 48 "ArchWater$Aqueduct" "cistern" "I", Cond.methodLink RX0 103 Lib.Math.min.name, Cond.static Lib.Math.min.name, Cond.initialized "java/lang/Math", Cond.code Lib.Math.min.name Lib.Math.min.code 2 (some .int), Cond.fieldLink RX0 60 "ArchWater$Aqueduct" "drunk" "I", Cond.fieldLink RX0 63 "ArchWater$Aqueduct" "thirst" "I", Cond.methodLink RX0 88 yX0_sendOn, Cond.instanceMethod yX0_sendOn, Cond.selects RX0 yX0_sendOn yX0_sendOn, Cond.code yX0_sendOn cX0_sendOn 5 none, Cond.fieldLink RX0 106 "ArchWater$Arch" "water" "I", Cond.methodLink RX0 109 yX0_rate, Cond.instanceMethod yX0_rate, Cond.selects RX0 yX0_rate yX0_rate, Cond.code yX0_rate cX0_rate 2 (some .int), Cond.methodLink RX0 132 yX0_slope, Cond.instanceMethod yX0_slope]
def wsX2_pass_r3 : List Cond := [Cond.selects RX0 yX0_slope yX0_slope, Cond.code yX0_slope cX0_slope 3 (some .int), Cond.fieldLink RX0 66 "ArchWater$Arch" "height" "I", Cond.methodLink RX0 113 yX1_leadToMill, Cond.instanceMethod yX1_leadToMill, Cond.selects RX1 yX1_leadToMill yX1_leadToMill, Cond.initialized RX1, Cond.code yX1_leadToMill cX1_leadToMill 2 (some .int), Cond.fieldLink RX1 33 "ArchWater$Arch" "tenths" "I", Cond.fieldLink RX1 30 "ArchWater$Arch" "appetite" "I", Cond.methodLink RX1 46 Lib.Math.min.name, Cond.fieldLink RX1 39 "ArchWater$Arch" "took" "I", Cond.fieldLink RX1 18 "ArchWater$Arch" "water" "I", Cond.methodLink RX0 116 yX0_pour, Cond.instanceMethod yX0_pour, Cond.selects RX0 yX0_pour yX0_pour, Cond.code yX0_pour cX0_pour 4 (some .int), Cond.fieldLink RX0 24 "ArchWater$Aqueduct" "holds" "I", Cond.methodLink RX0 126 yX1_fill, Cond.instanceMethod yX1_fill, Cond.selects RX1 yX1_fill yX1_fill, Cond.code yX1_fill cX1_fill 3 (some .int), Cond.fieldLink RX1 15 "ArchWater$Arch" "size" "I", Cond.methodLink RX0 91 yX0_grindAt]
def wsX2_pass_r4 : List Cond := [Cond.instanceMethod yX0_grindAt, Cond.selects RX0 yX0_grindAt yX0_grindAt, Cond.code yX0_grindAt cX0_grindAt 4 none, Cond.fieldLink RX0 119 "ArchWater$Arch" "took" "I", Cond.fieldLink RX0 45 "ArchWater$Aqueduct" "coins" "I", Cond.fieldLink RX0 54 "ArchWater$Aqueduct" "spilt" "I", Cond.fieldLink RX0 57 "ArchWater$Aqueduct" "used" "I", Cond.methodLink RX0 122 yX1_grind, Cond.instanceMethod yX1_grind, Cond.selects RX1 yX1_grind yX1_grind, Cond.code yX1_grind cX1_grind 2 (some .int), Cond.fieldLink RX1 36 "ArchWater$Arch" "flour" "I", Cond.methodLink RX0 94 yX0_letSpringGive, Cond.instanceMethod yX0_letSpringGive, Cond.selects RX0 yX0_letSpringGive yX0_letSpringGive, Cond.code yX0_letSpringGive cX0_letSpringGive 3 none, Cond.fieldLink RX0 51 "ArchWater$Aqueduct" "given" "I", Cond.methodLink RX0 97 yX1_leak, Cond.instanceMethod yX1_leak, Cond.selects RX1 yX1_leak yX1_leak, Cond.code yX1_leak cX1_leak 2 none, Cond.fieldLink RX1 24 "ArchWater$Arch" "drops" "I", Cond.fieldLink RX1 21 "ArchWater$Arch" "wear" "I", Cond.fieldLink RX1 27 "ArchWater$Arch" "leaked" "I"]
def wsX2_pass_r5 : List Cond := [Cond.methodLink RX0 100 yX0_wearAll, Cond.instanceMethod yX0_wearAll, Cond.selects RX0 yX0_wearAll yX0_wearAll, Cond.code yX0_wearAll cX0_wearAll 2 none, Cond.methodLink RX0 129 yX1_wearOfDay, Cond.instanceMethod yX1_wearOfDay, Cond.selects RX1 yX1_wearOfDay yX1_wearOfDay, Cond.code yX1_wearOfDay cX1_wearOfDay 1 none, Cond.methodLink RX1 52 yX1_hasOpenSluice, Cond.instanceMethod yX1_hasOpenSluice, Cond.selects RX1 yX1_hasOpenSluice yX1_hasOpenSluice, Cond.code yX1_hasOpenSluice cX1_hasOpenSluice 1 (some .boolean), Cond.methodLink RX1 42 yX1_hasMill, Cond.instanceMethod yX1_hasMill, Cond.selects RX1 yX1_hasMill yX1_hasMill, Cond.code yX1_hasMill cX1_hasMill 1 (some .boolean), Cond.methodLink RX1 55 yX1_wearBy, Cond.instanceMethod yX1_wearBy, Cond.selects RX1 yX1_wearBy yX1_wearBy, Cond.code yX1_wearBy cX1_wearBy 2 none]
def wsX2_pass : List Cond := .code yX2_pass cX2_pass 3 (some .int) :: ((wsX2_pass_r1 ++ (wsX2_pass_r2 ++ (wsX2_pass_r3 ++ (wsX2_pass_r4 ++ wsX2_pass_r5)))) ++ wsX20 ++ wsX00 ++ wsX10 ++ (vx_atS RX2 168 "java/lang/IllegalArgumentException" ["java/lang/RuntimeException", "java/lang/Exception"]).filter goodWord)
def wsX2_count_r1 : List Cond := [Cond.fieldLink RX2 10 "ArchWater" "now" "LArchWater$Aqueduct;", Cond.methodLink RX2 61 yX2_requireIndex, Cond.static yX2_requireIndex, Cond.initialized RX2, Cond.code yX2_requireIndex cX2_requireIndex 2 none, Cond.classLink RX2 159 "java/lang/IndexOutOfBoundsException", Cond.initialized "java/lang/IndexOutOfBoundsException", Cond.methodLink RX2 121 yX0_countNumber, Cond.instanceMethod yX0_countNumber, Cond.selects RX0 yX0_countNumber yX0_countNumber, Cond.initialized RX0, Cond.code yX0_countNumber cX0_countNumber 2 (some .int), Cond.fieldLink RX0 42 "ArchWater$Aqueduct" "hour" "I", Cond.fieldLink RX0 35 "ArchWater$Aqueduct" "arches" "I", Cond.fieldLink RX0 45 "ArchWater$Aqueduct" "coins" "I", Cond.fieldLink RX0 48 "ArchWater$Aqueduct" "cistern" "I", Cond.fieldLink RX0 51 "ArchWater$Aqueduct" "given" "I", Cond.fieldLink RX0 54 "ArchWater$Aqueduct" "spilt" "I", Cond.fieldLink RX0 57 "ArchWater$Aqueduct" "used" "I", Cond.fieldLink RX0 60 "ArchWater$Aqueduct" "drunk" "I", Cond.fieldLink RX0 63 "ArchWater$Aqueduct" "thirst" "I", Cond.methodLink RX0 151 yX0_mills, Cond.instanceMethod yX0_mills, Cond.selects RX0 yX0_mills yX0_mills]
def wsX2_count_r2 : List Cond := [Cond.code yX0_mills cX0_mills 3 (some .int), Cond.fieldLink RX0 20 "ArchWater$Aqueduct" "row" "[LArchWater$Arch;", Cond.methodLink RX0 135 yX1_hasMill, Cond.instanceMethod yX1_hasMill, Cond.selects RX1 yX1_hasMill yX1_hasMill, Cond.initialized RX1, Cond.code yX1_hasMill cX1_hasMill 1 (some .boolean), Cond.fieldLink RX1 30 "ArchWater$Arch" "appetite" "I", Cond.methodLink RX0 154 yX0_water, Cond.instanceMethod yX0_water, Cond.selects RX0 yX0_water yX0_water, Cond.code yX0_water cX0_water 3 (some .int), Cond.fieldLink RX0 106 "ArchWater$Arch" "water" "I", Cond.methodLink RX0 156 yX0_leaked, Cond.instanceMethod yX0_leaked, Cond.selects RX0 yX0_leaked yX0_leaked, Cond.code yX0_leaked cX0_leaked 3 (some .int), Cond.fieldLink RX0 139 "ArchWater$Arch" "leaked" "I"]
def wsX2_count : List Cond := .code yX2_count cX2_count 2 (some .int) :: ((wsX2_count_r1 ++ wsX2_count_r2) ++ wsX20 ++ wsX00 ++ wsX10 ++ (vx_atS RX2 163 "java/lang/IndexOutOfBoundsException" ["java/lang/RuntimeException", "java/lang/Exception"]).filter goodWord)
def wsX2_foresee_r1 : List Cond := [Cond.fieldLink RX2 16 "ArchWater" "trial" "LArchWater$Aqueduct;", Cond.fieldLink RX2 10 "ArchWater" "now" "LArchWater$Aqueduct;", Cond.fieldLink RX2 115 "ArchWater$Aqueduct" "thirst" "I", Cond.fieldLink RX2 131 "ArchWater$Aqueduct" "cistern" "I", Cond.methodLink RX2 23 yX2_requireRange, Cond.static yX2_requireRange, Cond.initialized RX2, Cond.code yX2_requireRange cX2_requireRange 3 none, Cond.classLink RX2 164 "java/lang/IllegalArgumentException", Cond.initialized "java/lang/IllegalArgumentException", Cond.methodLink RX2 61 yX2_requireIndex, Cond.static yX2_requireIndex, Cond.code yX2_requireIndex cX2_requireIndex 2 none, Cond.classLink RX2 159 "java/lang/IndexOutOfBoundsException", Cond.initialized "java/lang/IndexOutOfBoundsException", Cond.methodLink RX2 124 yX0_copyFrom, Cond.instanceMethod yX0_copyFrom, Cond.selects RX0 yX0_copyFrom yX0_copyFrom, Cond.initialized RX0, Cond.code yX0_copyFrom cX0_copyFrom 3 none, Cond.fieldLink RX0 9 "ArchWater$Aqueduct" "springTable" "[I", Cond.methodLink RX0 29 arraycopyName, Cond.native arraycopyName, Cond.static arraycopyName]
def wsX2_foresee_r2 : List Cond := [Cond.initialized "java/lang/System", Cond.fieldLink RX0 15 "ArchWater$Aqueduct" "cityTable" "[I", Cond.fieldLink RX0 35 "ArchWater$Aqueduct" "arches" "I", Cond.fieldLink RX0 20 "ArchWater$Aqueduct" "row" "[LArchWater$Arch;", Cond.fieldLink RX0 42 "ArchWater$Aqueduct" "hour" "I", Cond.fieldLink RX0 45 "ArchWater$Aqueduct" "coins" "I", Cond.fieldLink RX0 24 "ArchWater$Aqueduct" "holds" "I", Cond.fieldLink RX0 48 "ArchWater$Aqueduct" "cistern" "I", Cond.fieldLink RX0 51 "ArchWater$Aqueduct" "given" "I", Cond.fieldLink RX0 54 "ArchWater$Aqueduct" "spilt" "I", Cond.fieldLink RX0 57 "ArchWater$Aqueduct" "used" "I", Cond.fieldLink RX0 60 "ArchWater$Aqueduct" "drunk" "I", Cond.fieldLink RX0 63 "ArchWater$Aqueduct" "thirst" "I", Cond.methodLink RX0 38 yX1_copyFrom, Cond.instanceMethod yX1_copyFrom, Cond.selects RX1 yX1_copyFrom yX1_copyFrom, Cond.initialized RX1, Cond.code yX1_copyFrom cX1_copyFrom 2 none, Cond.fieldLink RX1 9 "ArchWater$Arch" "height" "I", Cond.fieldLink RX1 15 "ArchWater$Arch" "size" "I", Cond.fieldLink RX1 18 "ArchWater$Arch" "water" "I", Cond.fieldLink RX1 21 "ArchWater$Arch" "wear" "I", Cond.fieldLink RX1 24 "ArchWater$Arch" "drops" "I", Cond.fieldLink RX1 27 "ArchWater$Arch" "leaked" "I"]
def wsX2_foresee_r3 : List Cond := [Cond.fieldLink RX1 30 "ArchWater$Arch" "appetite" "I", Cond.fieldLink RX1 33 "ArchWater$Arch" "tenths" "I", Cond.fieldLink RX1 36 "ArchWater$Arch" "flour" "I", Cond.fieldLink RX1 39 "ArchWater$Arch" "took" "I", Cond.methodLink RX2 118 yX0_goOn, Cond.instanceMethod yX0_goOn, Cond.selects RX0 yX0_goOn yX0_goOn, Cond.code yX0_goOn cX0_goOn 3 none, Cond.methodLink RX0 78 yX0_goOnAnHour, Cond.instanceMethod yX0_goOnAnHour, Cond.selects RX0 yX0_goOnAnHour yX0_goOnAnHour, Cond.code yX0_goOnAnHour cX0_goOnAnHour 3 none, Cond.methodLink RX0 81 yJ9_floorMod_7cf53, Cond.static yJ9_floorMod_7cf53, Cond.initialized RJ9, Cond.code yJ9_floorMod_7cf53 cJ9_floorMod_7cf53 3 (some .int), Cond.methodLink RX0 84 yX0_letCityDrink, Cond.instanceMethod yX0_letCityDrink, Cond.selects RX0 yX0_letCityDrink yX0_letCityDrink, Cond.code yX0_letCityDrink cX0_letCityDrink 3 none, Cond.methodLink RX0 103 Lib.Math.min.name, Cond.static Lib.Math.min.name, Cond.initialized "java/lang/Math", Cond.code Lib.Math.min.name Lib.Math.min.code 2 (some .int)]
def wsX2_foresee_r4 : List Cond := [Cond.methodLink RX0 88 yX0_sendOn, Cond.instanceMethod yX0_sendOn, Cond.selects RX0 yX0_sendOn yX0_sendOn, Cond.code yX0_sendOn cX0_sendOn 5 none, Cond.fieldLink RX0 106 "ArchWater$Arch" "water" "I", Cond.methodLink RX0 109 yX0_rate, Cond.instanceMethod yX0_rate, Cond.selects RX0 yX0_rate yX0_rate, Cond.code yX0_rate cX0_rate 2 (some .int), Cond.methodLink RX0 132 yX0_slope, Cond.instanceMethod yX0_slope, Cond.selects RX0 yX0_slope yX0_slope, Cond.code yX0_slope cX0_slope 3 (some .int), Cond.fieldLink RX0 66 "ArchWater$Arch" "height" "I", Cond.methodLink RX0 113 yX1_leadToMill, Cond.instanceMethod yX1_leadToMill, Cond.selects RX1 yX1_leadToMill yX1_leadToMill, Cond.code yX1_leadToMill cX1_leadToMill 2 (some .int), Cond.methodLink RX1 46 Lib.Math.min.name, Cond.methodLink RX0 116 yX0_pour, Cond.instanceMethod yX0_pour, Cond.selects RX0 yX0_pour yX0_pour, Cond.code yX0_pour cX0_pour 4 (some .int), Cond.methodLink RX0 126 yX1_fill]
def wsX2_foresee_r5 : List Cond := [Cond.instanceMethod yX1_fill, Cond.selects RX1 yX1_fill yX1_fill, Cond.code yX1_fill cX1_fill 3 (some .int), Cond.methodLink RX0 91 yX0_grindAt, Cond.instanceMethod yX0_grindAt, Cond.selects RX0 yX0_grindAt yX0_grindAt, Cond.code yX0_grindAt cX0_grindAt 4 none, Cond.fieldLink RX0 119 "ArchWater$Arch" "took" "I", Cond.methodLink RX0 122 yX1_grind, Cond.instanceMethod yX1_grind, Cond.selects RX1 yX1_grind yX1_grind, Cond.code yX1_grind cX1_grind 2 (some .int), Cond.methodLink RX0 94 yX0_letSpringGive, Cond.instanceMethod yX0_letSpringGive, Cond.selects RX0 yX0_letSpringGive yX0_letSpringGive, Cond.code yX0_letSpringGive cX0_letSpringGive 3 none, Cond.methodLink RX0 97 yX1_leak, Cond.instanceMethod yX1_leak, Cond.selects RX1 yX1_leak yX1_leak, Cond.code yX1_leak cX1_leak 2 none, Cond.methodLink RX0 100 yX0_wearAll, Cond.instanceMethod yX0_wearAll, Cond.selects RX0 yX0_wearAll yX0_wearAll, Cond.code yX0_wearAll cX0_wearAll 2 none]
def wsX2_foresee_r6 : List Cond := [Cond.methodLink RX0 129 yX1_wearOfDay, Cond.instanceMethod yX1_wearOfDay, Cond.selects RX1 yX1_wearOfDay yX1_wearOfDay, Cond.code yX1_wearOfDay cX1_wearOfDay 1 none, Cond.methodLink RX1 52 yX1_hasOpenSluice, Cond.instanceMethod yX1_hasOpenSluice, Cond.selects RX1 yX1_hasOpenSluice yX1_hasOpenSluice, Cond.code yX1_hasOpenSluice cX1_hasOpenSluice 1 (some .boolean), Cond.methodLink RX1 42 yX1_hasMill, Cond.instanceMethod yX1_hasMill, Cond.selects RX1 yX1_hasMill yX1_hasMill, Cond.code yX1_hasMill cX1_hasMill 1 (some .boolean), Cond.methodLink RX1 55 yX1_wearBy, Cond.instanceMethod yX1_wearBy, Cond.selects RX1 yX1_wearBy yX1_wearBy, Cond.code yX1_wearBy cX1_wearBy 2 none, Cond.methodLink RX2 128 yX0_leaked, Cond.instanceMethod yX0_leaked, Cond.selects RX0 yX0_leaked yX0_leaked, Cond.code yX0_leaked cX0_leaked 3 (some .int), Cond.fieldLink RX0 139 "ArchWater$Arch" "leaked" "I", Cond.methodLink RX2 134 yX0_flour, Cond.instanceMethod yX0_flour, Cond.selects RX0 yX0_flour yX0_flour]
def wsX2_foresee_r7 : List Cond := [Cond.code yX0_flour cX0_flour 3 (some .int), Cond.fieldLink RX0 142 "ArchWater$Arch" "flour" "I"]
def wsX2_foresee : List Cond := .code yX2_foresee cX2_foresee 3 (some .int) :: ((wsX2_foresee_r1 ++ (wsX2_foresee_r2 ++ (wsX2_foresee_r3 ++ (wsX2_foresee_r4 ++ (wsX2_foresee_r5 ++ (wsX2_foresee_r6 ++ wsX2_foresee_r7)))))) ++ wsX20 ++ wsX00 ++ wsX10 ++ (vx_atS RX2 168 "java/lang/IllegalArgumentException" ["java/lang/RuntimeException", "java/lang/Exception"]).filter goodWord ++ (vx_atS RX2 163 "java/lang/IndexOutOfBoundsException" ["java/lang/RuntimeException", "java/lang/Exception"]).filter goodWord)
def wsX2_thirstWithClosed_r1 : List Cond := [Cond.fieldLink RX2 16 "ArchWater" "trial" "LArchWater$Aqueduct;", Cond.fieldLink RX2 10 "ArchWater" "now" "LArchWater$Aqueduct;", Cond.fieldLink RX2 27 "ArchWater$Aqueduct" "arches" "I", Cond.fieldLink RX2 88 "ArchWater$Arch" "tenths" "I", Cond.fieldLink RX2 115 "ArchWater$Aqueduct" "thirst" "I", Cond.methodLink RX2 124 yX0_copyFrom, Cond.instanceMethod yX0_copyFrom, Cond.selects RX0 yX0_copyFrom yX0_copyFrom, Cond.initialized RX0, Cond.code yX0_copyFrom cX0_copyFrom 3 none, Cond.fieldLink RX0 9 "ArchWater$Aqueduct" "springTable" "[I", Cond.methodLink RX0 29 arraycopyName, Cond.native arraycopyName, Cond.static arraycopyName, Cond.initialized "java/lang/System", Cond.fieldLink RX0 15 "ArchWater$Aqueduct" "cityTable" "[I", Cond.fieldLink RX0 35 "ArchWater$Aqueduct" "arches" "I", Cond.fieldLink RX0 20 "ArchWater$Aqueduct" "row" "[LArchWater$Arch;", Cond.fieldLink RX0 42 "ArchWater$Aqueduct" "hour" "I", Cond.fieldLink RX0 45 "ArchWater$Aqueduct" "coins" "I", Cond.fieldLink RX0 24 "ArchWater$Aqueduct" "holds" "I", Cond.fieldLink RX0 48 "ArchWater$Aqueduct" "cistern" "I", Cond.fieldLink RX0 51 "ArchWater$Aqueduct" "given" "I", Cond.fieldLink RX0 54 "ArchWater$Aqueduct" "spilt" "I"]
def wsX2_thirstWithClosed_r2 : List Cond := [Cond.fieldLink RX0 57 "ArchWater$Aqueduct" "used" "I", Cond.fieldLink RX0 60 "ArchWater$Aqueduct" "drunk" "I", Cond.fieldLink RX0 63 "ArchWater$Aqueduct" "thirst" "I", Cond.methodLink RX0 38 yX1_copyFrom, Cond.instanceMethod yX1_copyFrom, Cond.selects RX1 yX1_copyFrom yX1_copyFrom, Cond.initialized RX1, Cond.code yX1_copyFrom cX1_copyFrom 2 none, Cond.fieldLink RX1 9 "ArchWater$Arch" "height" "I", Cond.fieldLink RX1 15 "ArchWater$Arch" "size" "I", Cond.fieldLink RX1 18 "ArchWater$Arch" "water" "I", Cond.fieldLink RX1 21 "ArchWater$Arch" "wear" "I", Cond.fieldLink RX1 24 "ArchWater$Arch" "drops" "I", Cond.fieldLink RX1 27 "ArchWater$Arch" "leaked" "I", Cond.fieldLink RX1 30 "ArchWater$Arch" "appetite" "I", Cond.fieldLink RX1 33 "ArchWater$Arch" "tenths" "I", Cond.fieldLink RX1 36 "ArchWater$Arch" "flour" "I", Cond.fieldLink RX1 39 "ArchWater$Arch" "took" "I", Cond.methodLink RX2 68 yX0_archAt, Cond.instanceMethod yX0_archAt, Cond.selects RX0 yX0_archAt yX0_archAt, Cond.code yX0_archAt cX0_archAt 2 (some (.object "ArchWater$Arch")), Cond.methodLink RX2 118 yX0_goOn, Cond.instanceMethod yX0_goOn]
def wsX2_thirstWithClosed_r3 : List Cond := [Cond.selects RX0 yX0_goOn yX0_goOn, Cond.code yX0_goOn cX0_goOn 3 none, Cond.methodLink RX0 78 yX0_goOnAnHour, Cond.instanceMethod yX0_goOnAnHour, Cond.selects RX0 yX0_goOnAnHour yX0_goOnAnHour, Cond.code yX0_goOnAnHour cX0_goOnAnHour 3 none, Cond.methodLink RX0 81 yJ9_floorMod_7cf53, Cond.static yJ9_floorMod_7cf53, Cond.initialized RJ9, Cond.code yJ9_floorMod_7cf53 cJ9_floorMod_7cf53 3 (some .int), Cond.methodLink RX0 84 yX0_letCityDrink, Cond.instanceMethod yX0_letCityDrink, Cond.selects RX0 yX0_letCityDrink yX0_letCityDrink, Cond.code yX0_letCityDrink cX0_letCityDrink 3 none, Cond.methodLink RX0 103 Lib.Math.min.name, Cond.static Lib.Math.min.name, Cond.initialized "java/lang/Math", Cond.code Lib.Math.min.name Lib.Math.min.code 2 (some .int), Cond.methodLink RX0 88 yX0_sendOn, Cond.instanceMethod yX0_sendOn, Cond.selects RX0 yX0_sendOn yX0_sendOn, Cond.code yX0_sendOn cX0_sendOn 5 none, Cond.fieldLink RX0 106 "ArchWater$Arch" "water" "I", Cond.methodLink RX0 109 yX0_rate]
def wsX2_thirstWithClosed_r4 : List Cond := [Cond.instanceMethod yX0_rate, Cond.selects RX0 yX0_rate yX0_rate, Cond.code yX0_rate cX0_rate 2 (some .int), Cond.methodLink RX0 132 yX0_slope, Cond.instanceMethod yX0_slope, Cond.selects RX0 yX0_slope yX0_slope, Cond.code yX0_slope cX0_slope 3 (some .int), Cond.fieldLink RX0 66 "ArchWater$Arch" "height" "I", Cond.methodLink RX0 113 yX1_leadToMill, Cond.instanceMethod yX1_leadToMill, Cond.selects RX1 yX1_leadToMill yX1_leadToMill, Cond.code yX1_leadToMill cX1_leadToMill 2 (some .int), Cond.methodLink RX1 46 Lib.Math.min.name, Cond.methodLink RX0 116 yX0_pour, Cond.instanceMethod yX0_pour, Cond.selects RX0 yX0_pour yX0_pour, Cond.code yX0_pour cX0_pour 4 (some .int), Cond.methodLink RX0 126 yX1_fill, Cond.instanceMethod yX1_fill, Cond.selects RX1 yX1_fill yX1_fill, Cond.code yX1_fill cX1_fill 3 (some .int), Cond.methodLink RX0 91 yX0_grindAt, Cond.instanceMethod yX0_grindAt, Cond.selects RX0 yX0_grindAt yX0_grindAt]
def wsX2_thirstWithClosed_r5 : List Cond := [Cond.code yX0_grindAt cX0_grindAt 4 none, Cond.fieldLink RX0 119 "ArchWater$Arch" "took" "I", Cond.methodLink RX0 122 yX1_grind, Cond.instanceMethod yX1_grind, Cond.selects RX1 yX1_grind yX1_grind, Cond.code yX1_grind cX1_grind 2 (some .int), Cond.methodLink RX0 94 yX0_letSpringGive, Cond.instanceMethod yX0_letSpringGive, Cond.selects RX0 yX0_letSpringGive yX0_letSpringGive, Cond.code yX0_letSpringGive cX0_letSpringGive 3 none, Cond.methodLink RX0 97 yX1_leak, Cond.instanceMethod yX1_leak, Cond.selects RX1 yX1_leak yX1_leak, Cond.code yX1_leak cX1_leak 2 none, Cond.methodLink RX0 100 yX0_wearAll, Cond.instanceMethod yX0_wearAll, Cond.selects RX0 yX0_wearAll yX0_wearAll, Cond.code yX0_wearAll cX0_wearAll 2 none, Cond.methodLink RX0 129 yX1_wearOfDay, Cond.instanceMethod yX1_wearOfDay, Cond.selects RX1 yX1_wearOfDay yX1_wearOfDay, Cond.code yX1_wearOfDay cX1_wearOfDay 1 none, Cond.methodLink RX1 52 yX1_hasOpenSluice, Cond.instanceMethod yX1_hasOpenSluice]
def wsX2_thirstWithClosed_r6 : List Cond := [Cond.selects RX1 yX1_hasOpenSluice yX1_hasOpenSluice, Cond.code yX1_hasOpenSluice cX1_hasOpenSluice 1 (some .boolean), Cond.methodLink RX1 42 yX1_hasMill, Cond.instanceMethod yX1_hasMill, Cond.selects RX1 yX1_hasMill yX1_hasMill, Cond.code yX1_hasMill cX1_hasMill 1 (some .boolean), Cond.methodLink RX1 55 yX1_wearBy, Cond.instanceMethod yX1_wearBy, Cond.selects RX1 yX1_wearBy yX1_wearBy, Cond.code yX1_wearBy cX1_wearBy 2 none]
def wsX2_thirstWithClosed : List Cond := .code yX2_thirstWithClosed cX2_thirstWithClosed 3 (some .int) :: ((wsX2_thirstWithClosed_r1 ++ (wsX2_thirstWithClosed_r2 ++ (wsX2_thirstWithClosed_r3 ++ (wsX2_thirstWithClosed_r4 ++ (wsX2_thirstWithClosed_r5 ++ wsX2_thirstWithClosed_r6))))) ++ wsX20 ++ wsX00 ++ wsX10)
def wsX2_advise_r1 : List Cond := [Cond.fieldLink RX2 10 "ArchWater" "now" "LArchWater$Aqueduct;", Cond.fieldLink RX2 27 "ArchWater$Aqueduct" "arches" "I", Cond.methodLink RX2 23 yX2_requireRange, Cond.static yX2_requireRange, Cond.initialized RX2, Cond.code yX2_requireRange cX2_requireRange 3 none, Cond.classLink RX2 164 "java/lang/IllegalArgumentException", Cond.initialized "java/lang/IllegalArgumentException", Cond.methodLink RX2 137 yX2_thirstWithClosed, Cond.instanceMethod yX2_thirstWithClosed, Cond.selects RX2 yX2_thirstWithClosed yX2_thirstWithClosed, Cond.code yX2_thirstWithClosed cX2_thirstWithClosed 3 (some .int), Cond.fieldLink RX2 16 "ArchWater" "trial" "LArchWater$Aqueduct;", Cond.fieldLink RX2 88 "ArchWater$Arch" "tenths" "I", Cond.fieldLink RX2 115 "ArchWater$Aqueduct" "thirst" "I", Cond.methodLink RX2 124 yX0_copyFrom, Cond.instanceMethod yX0_copyFrom, Cond.selects RX0 yX0_copyFrom yX0_copyFrom, Cond.initialized RX0, Cond.code yX0_copyFrom cX0_copyFrom 3 none, Cond.fieldLink RX0 9 "ArchWater$Aqueduct" "springTable" "[I", Cond.methodLink RX0 29 arraycopyName, Cond.native arraycopyName, Cond.static arraycopyName]
def wsX2_advise_r2 : List Cond := [Cond.initialized "java/lang/System", Cond.fieldLink RX0 15 "ArchWater$Aqueduct" "cityTable" "[I", Cond.fieldLink RX0 35 "ArchWater$Aqueduct" "arches" "I", Cond.fieldLink RX0 20 "ArchWater$Aqueduct" "row" "[LArchWater$Arch;", Cond.fieldLink RX0 42 "ArchWater$Aqueduct" "hour" "I", Cond.fieldLink RX0 45 "ArchWater$Aqueduct" "coins" "I", Cond.fieldLink RX0 24 "ArchWater$Aqueduct" "holds" "I", Cond.fieldLink RX0 48 "ArchWater$Aqueduct" "cistern" "I", Cond.fieldLink RX0 51 "ArchWater$Aqueduct" "given" "I", Cond.fieldLink RX0 54 "ArchWater$Aqueduct" "spilt" "I", Cond.fieldLink RX0 57 "ArchWater$Aqueduct" "used" "I", Cond.fieldLink RX0 60 "ArchWater$Aqueduct" "drunk" "I", Cond.fieldLink RX0 63 "ArchWater$Aqueduct" "thirst" "I", Cond.methodLink RX0 38 yX1_copyFrom, Cond.instanceMethod yX1_copyFrom, Cond.selects RX1 yX1_copyFrom yX1_copyFrom, Cond.initialized RX1, Cond.code yX1_copyFrom cX1_copyFrom 2 none, Cond.fieldLink RX1 9 "ArchWater$Arch" "height" "I", Cond.fieldLink RX1 15 "ArchWater$Arch" "size" "I", Cond.fieldLink RX1 18 "ArchWater$Arch" "water" "I", Cond.fieldLink RX1 21 "ArchWater$Arch" "wear" "I", Cond.fieldLink RX1 24 "ArchWater$Arch" "drops" "I", Cond.fieldLink RX1 27 "ArchWater$Arch" "leaked" "I"]
def wsX2_advise_r3 : List Cond := [Cond.fieldLink RX1 30 "ArchWater$Arch" "appetite" "I", Cond.fieldLink RX1 33 "ArchWater$Arch" "tenths" "I", Cond.fieldLink RX1 36 "ArchWater$Arch" "flour" "I", Cond.fieldLink RX1 39 "ArchWater$Arch" "took" "I", Cond.methodLink RX2 68 yX0_archAt, Cond.instanceMethod yX0_archAt, Cond.selects RX0 yX0_archAt yX0_archAt, Cond.code yX0_archAt cX0_archAt 2 (some (.object "ArchWater$Arch")), Cond.methodLink RX2 118 yX0_goOn, Cond.instanceMethod yX0_goOn, Cond.selects RX0 yX0_goOn yX0_goOn, Cond.code yX0_goOn cX0_goOn 3 none, Cond.methodLink RX0 78 yX0_goOnAnHour, Cond.instanceMethod yX0_goOnAnHour, Cond.selects RX0 yX0_goOnAnHour yX0_goOnAnHour, Cond.code yX0_goOnAnHour cX0_goOnAnHour 3 none, Cond.methodLink RX0 81 yJ9_floorMod_7cf53, Cond.static yJ9_floorMod_7cf53, Cond.initialized RJ9, Cond.code yJ9_floorMod_7cf53 cJ9_floorMod_7cf53 3 (some .int), Cond.methodLink RX0 84 yX0_letCityDrink, Cond.instanceMethod yX0_letCityDrink, Cond.selects RX0 yX0_letCityDrink yX0_letCityDrink, Cond.code yX0_letCityDrink cX0_letCityDrink 3 none]
def wsX2_advise_r4 : List Cond := [Cond.methodLink RX0 103 Lib.Math.min.name, Cond.static Lib.Math.min.name, Cond.initialized "java/lang/Math", Cond.code Lib.Math.min.name Lib.Math.min.code 2 (some .int), Cond.methodLink RX0 88 yX0_sendOn, Cond.instanceMethod yX0_sendOn, Cond.selects RX0 yX0_sendOn yX0_sendOn, Cond.code yX0_sendOn cX0_sendOn 5 none, Cond.fieldLink RX0 106 "ArchWater$Arch" "water" "I", Cond.methodLink RX0 109 yX0_rate, Cond.instanceMethod yX0_rate, Cond.selects RX0 yX0_rate yX0_rate, Cond.code yX0_rate cX0_rate 2 (some .int), Cond.methodLink RX0 132 yX0_slope, Cond.instanceMethod yX0_slope, Cond.selects RX0 yX0_slope yX0_slope, Cond.code yX0_slope cX0_slope 3 (some .int), Cond.fieldLink RX0 66 "ArchWater$Arch" "height" "I", Cond.methodLink RX0 113 yX1_leadToMill, Cond.instanceMethod yX1_leadToMill, Cond.selects RX1 yX1_leadToMill yX1_leadToMill, Cond.code yX1_leadToMill cX1_leadToMill 2 (some .int), Cond.methodLink RX1 46 Lib.Math.min.name, Cond.methodLink RX0 116 yX0_pour]
def wsX2_advise_r5 : List Cond := [Cond.instanceMethod yX0_pour, Cond.selects RX0 yX0_pour yX0_pour, Cond.code yX0_pour cX0_pour 4 (some .int), Cond.methodLink RX0 126 yX1_fill, Cond.instanceMethod yX1_fill, Cond.selects RX1 yX1_fill yX1_fill, Cond.code yX1_fill cX1_fill 3 (some .int), Cond.methodLink RX0 91 yX0_grindAt, Cond.instanceMethod yX0_grindAt, Cond.selects RX0 yX0_grindAt yX0_grindAt, Cond.code yX0_grindAt cX0_grindAt 4 none, Cond.fieldLink RX0 119 "ArchWater$Arch" "took" "I", Cond.methodLink RX0 122 yX1_grind, Cond.instanceMethod yX1_grind, Cond.selects RX1 yX1_grind yX1_grind, Cond.code yX1_grind cX1_grind 2 (some .int), Cond.methodLink RX0 94 yX0_letSpringGive, Cond.instanceMethod yX0_letSpringGive, Cond.selects RX0 yX0_letSpringGive yX0_letSpringGive, Cond.code yX0_letSpringGive cX0_letSpringGive 3 none, Cond.methodLink RX0 97 yX1_leak, Cond.instanceMethod yX1_leak, Cond.selects RX1 yX1_leak yX1_leak, Cond.code yX1_leak cX1_leak 2 none]
def wsX2_advise_r6 : List Cond := [Cond.methodLink RX0 100 yX0_wearAll, Cond.instanceMethod yX0_wearAll, Cond.selects RX0 yX0_wearAll yX0_wearAll, Cond.code yX0_wearAll cX0_wearAll 2 none, Cond.methodLink RX0 129 yX1_wearOfDay, Cond.instanceMethod yX1_wearOfDay, Cond.selects RX1 yX1_wearOfDay yX1_wearOfDay, Cond.code yX1_wearOfDay cX1_wearOfDay 1 none, Cond.methodLink RX1 52 yX1_hasOpenSluice, Cond.instanceMethod yX1_hasOpenSluice, Cond.selects RX1 yX1_hasOpenSluice yX1_hasOpenSluice, Cond.code yX1_hasOpenSluice cX1_hasOpenSluice 1 (some .boolean), Cond.methodLink RX1 42 yX1_hasMill, Cond.instanceMethod yX1_hasMill, Cond.selects RX1 yX1_hasMill yX1_hasMill, Cond.code yX1_hasMill cX1_hasMill 1 (some .boolean), Cond.methodLink RX1 55 yX1_wearBy, Cond.instanceMethod yX1_wearBy, Cond.selects RX1 yX1_wearBy yX1_wearBy, Cond.code yX1_wearBy cX1_wearBy 2 none, Cond.methodLink RX2 140 yX1_hasOpenSluice]
def wsX2_advise : List Cond := .code yX2_advise cX2_advise 6 (some .int) :: ((wsX2_advise_r1 ++ (wsX2_advise_r2 ++ (wsX2_advise_r3 ++ (wsX2_advise_r4 ++ (wsX2_advise_r5 ++ wsX2_advise_r6))))) ++ wsX20 ++ wsX00 ++ wsX10 ++ (vx_atS RX2 168 "java/lang/IllegalArgumentException" ["java/lang/RuntimeException", "java/lang/Exception"]).filter goodWord)
def wsX2_thirsty_r1 : List Cond := [Cond.fieldLink RX2 16 "ArchWater" "trial" "LArchWater$Aqueduct;", Cond.fieldLink RX2 10 "ArchWater" "now" "LArchWater$Aqueduct;", Cond.fieldLink RX2 115 "ArchWater$Aqueduct" "thirst" "I", Cond.methodLink RX2 124 yX0_copyFrom, Cond.instanceMethod yX0_copyFrom, Cond.selects RX0 yX0_copyFrom yX0_copyFrom, Cond.initialized RX0, Cond.code yX0_copyFrom cX0_copyFrom 3 none, Cond.fieldLink RX0 9 "ArchWater$Aqueduct" "springTable" "[I", Cond.methodLink RX0 29 arraycopyName, Cond.native arraycopyName, Cond.static arraycopyName, Cond.initialized "java/lang/System", Cond.fieldLink RX0 15 "ArchWater$Aqueduct" "cityTable" "[I", Cond.fieldLink RX0 35 "ArchWater$Aqueduct" "arches" "I", Cond.fieldLink RX0 20 "ArchWater$Aqueduct" "row" "[LArchWater$Arch;", Cond.fieldLink RX0 42 "ArchWater$Aqueduct" "hour" "I", Cond.fieldLink RX0 45 "ArchWater$Aqueduct" "coins" "I", Cond.fieldLink RX0 24 "ArchWater$Aqueduct" "holds" "I", Cond.fieldLink RX0 48 "ArchWater$Aqueduct" "cistern" "I", Cond.fieldLink RX0 51 "ArchWater$Aqueduct" "given" "I", Cond.fieldLink RX0 54 "ArchWater$Aqueduct" "spilt" "I", Cond.fieldLink RX0 57 "ArchWater$Aqueduct" "used" "I", Cond.fieldLink RX0 60 "ArchWater$Aqueduct" "drunk" "I"]
def wsX2_thirsty_r2 : List Cond := [Cond.fieldLink RX0 63 "ArchWater$Aqueduct" "thirst" "I", Cond.methodLink RX0 38 yX1_copyFrom, Cond.instanceMethod yX1_copyFrom, Cond.selects RX1 yX1_copyFrom yX1_copyFrom, Cond.initialized RX1, Cond.code yX1_copyFrom cX1_copyFrom 2 none, Cond.fieldLink RX1 9 "ArchWater$Arch" "height" "I", Cond.fieldLink RX1 15 "ArchWater$Arch" "size" "I", Cond.fieldLink RX1 18 "ArchWater$Arch" "water" "I", Cond.fieldLink RX1 21 "ArchWater$Arch" "wear" "I", Cond.fieldLink RX1 24 "ArchWater$Arch" "drops" "I", Cond.fieldLink RX1 27 "ArchWater$Arch" "leaked" "I", Cond.fieldLink RX1 30 "ArchWater$Arch" "appetite" "I", Cond.fieldLink RX1 33 "ArchWater$Arch" "tenths" "I", Cond.fieldLink RX1 36 "ArchWater$Arch" "flour" "I", Cond.fieldLink RX1 39 "ArchWater$Arch" "took" "I", Cond.methodLink RX2 118 yX0_goOn, Cond.instanceMethod yX0_goOn, Cond.selects RX0 yX0_goOn yX0_goOn, Cond.code yX0_goOn cX0_goOn 3 none, Cond.methodLink RX0 78 yX0_goOnAnHour, Cond.instanceMethod yX0_goOnAnHour, Cond.selects RX0 yX0_goOnAnHour yX0_goOnAnHour, Cond.code yX0_goOnAnHour cX0_goOnAnHour 3 none]
def wsX2_thirsty_r3 : List Cond := [Cond.methodLink RX0 81 yJ9_floorMod_7cf53, Cond.static yJ9_floorMod_7cf53, Cond.initialized RJ9, Cond.code yJ9_floorMod_7cf53 cJ9_floorMod_7cf53 3 (some .int), Cond.methodLink RX0 84 yX0_letCityDrink, Cond.instanceMethod yX0_letCityDrink, Cond.selects RX0 yX0_letCityDrink yX0_letCityDrink, Cond.code yX0_letCityDrink cX0_letCityDrink 3 none, Cond.methodLink RX0 103 Lib.Math.min.name, Cond.static Lib.Math.min.name, Cond.initialized "java/lang/Math", Cond.code Lib.Math.min.name Lib.Math.min.code 2 (some .int), Cond.methodLink RX0 88 yX0_sendOn, Cond.instanceMethod yX0_sendOn, Cond.selects RX0 yX0_sendOn yX0_sendOn, Cond.code yX0_sendOn cX0_sendOn 5 none, Cond.fieldLink RX0 106 "ArchWater$Arch" "water" "I", Cond.methodLink RX0 109 yX0_rate, Cond.instanceMethod yX0_rate, Cond.selects RX0 yX0_rate yX0_rate, Cond.code yX0_rate cX0_rate 2 (some .int), Cond.methodLink RX0 132 yX0_slope, Cond.instanceMethod yX0_slope, Cond.selects RX0 yX0_slope yX0_slope]
def wsX2_thirsty_r4 : List Cond := [Cond.code yX0_slope cX0_slope 3 (some .int), Cond.fieldLink RX0 66 "ArchWater$Arch" "height" "I", Cond.methodLink RX0 113 yX1_leadToMill, Cond.instanceMethod yX1_leadToMill, Cond.selects RX1 yX1_leadToMill yX1_leadToMill, Cond.code yX1_leadToMill cX1_leadToMill 2 (some .int), Cond.methodLink RX1 46 Lib.Math.min.name, Cond.methodLink RX0 116 yX0_pour, Cond.instanceMethod yX0_pour, Cond.selects RX0 yX0_pour yX0_pour, Cond.code yX0_pour cX0_pour 4 (some .int), Cond.methodLink RX0 126 yX1_fill, Cond.instanceMethod yX1_fill, Cond.selects RX1 yX1_fill yX1_fill, Cond.code yX1_fill cX1_fill 3 (some .int), Cond.methodLink RX0 91 yX0_grindAt, Cond.instanceMethod yX0_grindAt, Cond.selects RX0 yX0_grindAt yX0_grindAt, Cond.code yX0_grindAt cX0_grindAt 4 none, Cond.fieldLink RX0 119 "ArchWater$Arch" "took" "I", Cond.methodLink RX0 122 yX1_grind, Cond.instanceMethod yX1_grind, Cond.selects RX1 yX1_grind yX1_grind, Cond.code yX1_grind cX1_grind 2 (some .int)]
def wsX2_thirsty_r5 : List Cond := [Cond.methodLink RX0 94 yX0_letSpringGive, Cond.instanceMethod yX0_letSpringGive, Cond.selects RX0 yX0_letSpringGive yX0_letSpringGive, Cond.code yX0_letSpringGive cX0_letSpringGive 3 none, Cond.methodLink RX0 97 yX1_leak, Cond.instanceMethod yX1_leak, Cond.selects RX1 yX1_leak yX1_leak, Cond.code yX1_leak cX1_leak 2 none, Cond.methodLink RX0 100 yX0_wearAll, Cond.instanceMethod yX0_wearAll, Cond.selects RX0 yX0_wearAll yX0_wearAll, Cond.code yX0_wearAll cX0_wearAll 2 none, Cond.methodLink RX0 129 yX1_wearOfDay, Cond.instanceMethod yX1_wearOfDay, Cond.selects RX1 yX1_wearOfDay yX1_wearOfDay, Cond.code yX1_wearOfDay cX1_wearOfDay 1 none, Cond.methodLink RX1 52 yX1_hasOpenSluice, Cond.instanceMethod yX1_hasOpenSluice, Cond.selects RX1 yX1_hasOpenSluice yX1_hasOpenSluice, Cond.code yX1_hasOpenSluice cX1_hasOpenSluice 1 (some .boolean), Cond.methodLink RX1 42 yX1_hasMill, Cond.instanceMethod yX1_hasMill, Cond.selects RX1 yX1_hasMill yX1_hasMill, Cond.code yX1_hasMill cX1_hasMill 1 (some .boolean)]
def wsX2_thirsty_r6 : List Cond := [Cond.methodLink RX1 55 yX1_wearBy, Cond.instanceMethod yX1_wearBy, Cond.selects RX1 yX1_wearBy yX1_wearBy, Cond.code yX1_wearBy cX1_wearBy 2 none]
def wsX2_thirsty : List Cond := .code yX2_thirsty cX2_thirsty 2 (some .int) :: ((wsX2_thirsty_r1 ++ (wsX2_thirsty_r2 ++ (wsX2_thirsty_r3 ++ (wsX2_thirsty_r4 ++ (wsX2_thirsty_r5 ++ wsX2_thirsty_r6))))) ++ wsX20 ++ wsX00 ++ wsX10)
def wsX2_worst : List Cond := .code yX2_worst cX2_worst 5 (some .int) :: ([.fieldLink RX2 10 "ArchWater" "now" "LArchWater$Aqueduct;", .fieldLink RX2 27 "ArchWater$Aqueduct" "arches" "I", .fieldLink RX2 143 "ArchWater$Arch" "leaked" "I", .methodLink RX2 68 yX0_archAt, .instanceMethod yX0_archAt, .selects RX0 yX0_archAt yX0_archAt, .initialized RX0, .code yX0_archAt cX0_archAt 2 (some (.object "ArchWater$Arch")), .fieldLink RX0 20 "ArchWater$Aqueduct" "row" "[LArchWater$Arch;"] ++ wsX20 ++ wsX00 ++ wsX10)
def wsX2_reaches : List Cond := .code yX2_reaches cX2_reaches 1 (some .double) :: ([.fieldLink RX2 10 "ArchWater" "now" "LArchWater$Aqueduct;", .fieldLink RX2 145 "ArchWater$Aqueduct" "given" "I", .fieldLink RX2 148 "ArchWater$Aqueduct" "drunk" "I"] ++ wsX20 ++ wsX00)
def wsX2_digestArch_r1 : List Cond := [Cond.constantLong RX2 153 (31), Cond.fieldLink RX2 10 "ArchWater" "now" "LArchWater$Aqueduct;", Cond.methodLink RX2 65 yX0_archNumber, Cond.instanceMethod yX0_archNumber, Cond.selects RX0 yX0_archNumber yX0_archNumber, Cond.initialized RX0, Cond.code yX0_archNumber cX0_archNumber 4 (some .int), Cond.fieldLink RX0 20 "ArchWater$Aqueduct" "row" "[LArchWater$Arch;", Cond.fieldLink RX0 66 "ArchWater$Arch" "height" "I", Cond.fieldLink RX0 69 "ArchWater$Arch" "size" "I", Cond.fieldLink RX0 106 "ArchWater$Arch" "water" "I", Cond.fieldLink RX0 145 "ArchWater$Arch" "wear" "I", Cond.fieldLink RX0 148 "ArchWater$Arch" "drops" "I", Cond.fieldLink RX0 139 "ArchWater$Arch" "leaked" "I", Cond.methodLink RX0 132 yX0_slope, Cond.instanceMethod yX0_slope, Cond.selects RX0 yX0_slope yX0_slope, Cond.code yX0_slope cX0_slope 3 (some .int), Cond.fieldLink RX0 35 "ArchWater$Aqueduct" "arches" "I", Cond.methodLink RX0 109 yX0_rate, Cond.instanceMethod yX0_rate, Cond.selects RX0 yX0_rate yX0_rate, Cond.code yX0_rate cX0_rate 2 (some .int), Cond.methodLink RX0 103 Lib.Math.min.name]
def wsX2_digestArch_r2 : List Cond := [Cond.static Lib.Math.min.name, Cond.initialized "java/lang/Math", Cond.code Lib.Math.min.name Lib.Math.min.code 2 (some .int), Cond.methodLink RX0 135 yX1_hasMill, Cond.instanceMethod yX1_hasMill, Cond.selects RX1 yX1_hasMill yX1_hasMill, Cond.initialized RX1, Cond.code yX1_hasMill cX1_hasMill 1 (some .boolean), Cond.fieldLink RX1 30 "ArchWater$Arch" "appetite" "I", Cond.methodLink RX2 68 yX0_archAt, Cond.instanceMethod yX0_archAt, Cond.selects RX0 yX0_archAt yX0_archAt, Cond.code yX0_archAt cX0_archAt 2 (some (.object "ArchWater$Arch")), Cond.methodLink RX2 91 yX1_millNumber, Cond.instanceMethod yX1_millNumber, Cond.selects RX1 yX1_millNumber yX1_millNumber, Cond.code yX1_millNumber cX1_millNumber 2 (some .int), Cond.fieldLink RX1 33 "ArchWater$Arch" "tenths" "I", Cond.fieldLink RX1 36 "ArchWater$Arch" "flour" "I", Cond.fieldLink RX1 39 "ArchWater$Arch" "took" "I", Cond.methodLink RX1 42 yX1_hasMill]
def wsX2_digestArch : List Cond := .code yX2_digestArch cX2_digestArch 7 (some .long) :: ((wsX2_digestArch_r1 ++ wsX2_digestArch_r2) ++ wsX20 ++ wsX00 ++ wsX10)
def wsX2_digest_r1 : List Cond := [Cond.constantLong RX2 151 (601), Cond.constantLong RX2 153 (31), Cond.fieldLink RX2 10 "ArchWater" "now" "LArchWater$Aqueduct;", Cond.fieldLink RX2 42 "ArchWater$Aqueduct" "springTable" "[I", Cond.fieldLink RX2 50 "ArchWater$Aqueduct" "cityTable" "[I", Cond.fieldLink RX2 27 "ArchWater$Aqueduct" "arches" "I", Cond.methodLink RX2 121 yX0_countNumber, Cond.instanceMethod yX0_countNumber, Cond.selects RX0 yX0_countNumber yX0_countNumber, Cond.initialized RX0, Cond.code yX0_countNumber cX0_countNumber 2 (some .int), Cond.fieldLink RX0 42 "ArchWater$Aqueduct" "hour" "I", Cond.fieldLink RX0 35 "ArchWater$Aqueduct" "arches" "I", Cond.fieldLink RX0 45 "ArchWater$Aqueduct" "coins" "I", Cond.fieldLink RX0 48 "ArchWater$Aqueduct" "cistern" "I", Cond.fieldLink RX0 51 "ArchWater$Aqueduct" "given" "I", Cond.fieldLink RX0 54 "ArchWater$Aqueduct" "spilt" "I", Cond.fieldLink RX0 57 "ArchWater$Aqueduct" "used" "I", Cond.fieldLink RX0 60 "ArchWater$Aqueduct" "drunk" "I", Cond.fieldLink RX0 63 "ArchWater$Aqueduct" "thirst" "I", Cond.methodLink RX0 151 yX0_mills, Cond.instanceMethod yX0_mills, Cond.selects RX0 yX0_mills yX0_mills, Cond.code yX0_mills cX0_mills 3 (some .int)]
def wsX2_digest_r2 : List Cond := [Cond.fieldLink RX0 20 "ArchWater$Aqueduct" "row" "[LArchWater$Arch;", Cond.methodLink RX0 135 yX1_hasMill, Cond.instanceMethod yX1_hasMill, Cond.selects RX1 yX1_hasMill yX1_hasMill, Cond.initialized RX1, Cond.code yX1_hasMill cX1_hasMill 1 (some .boolean), Cond.fieldLink RX1 30 "ArchWater$Arch" "appetite" "I", Cond.methodLink RX0 154 yX0_water, Cond.instanceMethod yX0_water, Cond.selects RX0 yX0_water yX0_water, Cond.code yX0_water cX0_water 3 (some .int), Cond.fieldLink RX0 106 "ArchWater$Arch" "water" "I", Cond.methodLink RX0 156 yX0_leaked, Cond.instanceMethod yX0_leaked, Cond.selects RX0 yX0_leaked yX0_leaked, Cond.code yX0_leaked cX0_leaked 3 (some .int), Cond.fieldLink RX0 139 "ArchWater$Arch" "leaked" "I", Cond.methodLink RX2 155 yX2_digestArch, Cond.instanceMethod yX2_digestArch, Cond.selects RX2 yX2_digestArch yX2_digestArch, Cond.initialized RX2, Cond.code yX2_digestArch cX2_digestArch 7 (some .long), Cond.methodLink RX2 65 yX0_archNumber, Cond.instanceMethod yX0_archNumber]
def wsX2_digest_r3 : List Cond := [Cond.selects RX0 yX0_archNumber yX0_archNumber, Cond.code yX0_archNumber cX0_archNumber 4 (some .int), Cond.fieldLink RX0 66 "ArchWater$Arch" "height" "I", Cond.fieldLink RX0 69 "ArchWater$Arch" "size" "I", Cond.fieldLink RX0 145 "ArchWater$Arch" "wear" "I", Cond.fieldLink RX0 148 "ArchWater$Arch" "drops" "I", Cond.methodLink RX0 132 yX0_slope, Cond.instanceMethod yX0_slope, Cond.selects RX0 yX0_slope yX0_slope, Cond.code yX0_slope cX0_slope 3 (some .int), Cond.methodLink RX0 109 yX0_rate, Cond.instanceMethod yX0_rate, Cond.selects RX0 yX0_rate yX0_rate, Cond.code yX0_rate cX0_rate 2 (some .int), Cond.methodLink RX0 103 Lib.Math.min.name, Cond.static Lib.Math.min.name, Cond.initialized "java/lang/Math", Cond.code Lib.Math.min.name Lib.Math.min.code 2 (some .int), Cond.methodLink RX2 68 yX0_archAt, Cond.instanceMethod yX0_archAt, Cond.selects RX0 yX0_archAt yX0_archAt, Cond.code yX0_archAt cX0_archAt 2 (some (.object "ArchWater$Arch")), Cond.methodLink RX2 91 yX1_millNumber, Cond.instanceMethod yX1_millNumber]
def wsX2_digest_r4 : List Cond := [Cond.selects RX1 yX1_millNumber yX1_millNumber, Cond.code yX1_millNumber cX1_millNumber 2 (some .int), Cond.fieldLink RX1 33 "ArchWater$Arch" "tenths" "I", Cond.fieldLink RX1 36 "ArchWater$Arch" "flour" "I", Cond.fieldLink RX1 39 "ArchWater$Arch" "took" "I", Cond.methodLink RX1 42 yX1_hasMill]
def wsX2_digest : List Cond := .code yX2_digest cX2_digest 4 (some .long) :: ((wsX2_digest_r1 ++ (wsX2_digest_r2 ++ (wsX2_digest_r3 ++ wsX2_digest_r4))) ++ wsX20 ++ wsX00 ++ wsX10)
def wsX3_init : List Cond := .code yX3_init cX3_init 2 none :: ([.fieldLink RX3 3 "ArchWaterModel$State" "this$0" "LArchWaterModel;", .methodLink RX3 9 objectInit, .instanceMethod objectInit, .code objectInit ⟨#[0xb1]⟩ 1 none, .fieldLink RX3 15 "ArchWaterModel$State" "holds" "I", .arrayClass .int, .fieldLink RX3 19 "ArchWaterModel$State" "water" "[I", .fieldLink RX3 23 "ArchWaterModel$State" "wear" "[I", .fieldLink RX3 26 "ArchWaterModel$State" "drops" "[I", .fieldLink RX3 29 "ArchWaterModel$State" "leaked" "[I", .fieldLink RX3 32 "ArchWaterModel$State" "tenths" "[I", .fieldLink RX3 35 "ArchWaterModel$State" "flour" "[I", .fieldLink RX3 38 "ArchWaterModel$State" "took" "[I"] ++ wsX30)
def wsX3_copy : List Cond := .code yX3_copy cX3_copy 3 none :: ([.methodLink RX3 41 arraycopyName, .native arraycopyName, .static arraycopyName, .initialized "java/lang/System"])
def wsX3_become_r1 : List Cond := [Cond.fieldLink RX3 47 "ArchWaterModel$State" "hour" "I", Cond.fieldLink RX3 50 "ArchWaterModel$State" "cistern" "I", Cond.fieldLink RX3 15 "ArchWaterModel$State" "holds" "I", Cond.fieldLink RX3 53 "ArchWaterModel$State" "coins" "I", Cond.fieldLink RX3 19 "ArchWaterModel$State" "water" "[I", Cond.fieldLink RX3 23 "ArchWaterModel$State" "wear" "[I", Cond.fieldLink RX3 26 "ArchWaterModel$State" "drops" "[I", Cond.fieldLink RX3 29 "ArchWaterModel$State" "leaked" "[I", Cond.fieldLink RX3 32 "ArchWaterModel$State" "tenths" "[I", Cond.fieldLink RX3 35 "ArchWaterModel$State" "flour" "[I", Cond.fieldLink RX3 38 "ArchWaterModel$State" "took" "[I", Cond.fieldLink RX3 60 "ArchWaterModel$State" "given" "I", Cond.fieldLink RX3 63 "ArchWaterModel$State" "spilt" "I", Cond.fieldLink RX3 66 "ArchWaterModel$State" "used" "I", Cond.fieldLink RX3 69 "ArchWaterModel$State" "drunk" "I", Cond.fieldLink RX3 72 "ArchWaterModel$State" "thirst" "I", Cond.methodLink RX3 56 yX3_copy, Cond.instanceMethod yX3_copy, Cond.selects RX3 yX3_copy yX3_copy, Cond.initialized RX3, Cond.code yX3_copy cX3_copy 3 none, Cond.methodLink RX3 41 arraycopyName, Cond.native arraycopyName, Cond.static arraycopyName]
def wsX3_become_r2 : List Cond := [Cond.initialized "java/lang/System"]
def wsX3_become : List Cond := .code yX3_become cX3_become 2 none :: ((wsX3_become_r1 ++ wsX3_become_r2) ++ wsX30)
def wsX3_come : List Cond := .code yX3_come cX3_come 4 (some .int) :: ([.fieldLink RX3 3 "ArchWaterModel$State" "this$0" "LArchWaterModel;", .fieldLink RX3 19 "ArchWaterModel$State" "water" "[I", .fieldLink RX3 15 "ArchWaterModel$State" "holds" "I", .fieldLink RX3 50 "ArchWaterModel$State" "cistern" "I", .methodLink RX3 81 Lib.Math.min.name, .static Lib.Math.min.name, .initialized "java/lang/Math", .code Lib.Math.min.name Lib.Math.min.code 2 (some .int)] ++ wsX30 ++ wsX40)
def wsX4_slope : List Cond := .code yX4_slope cX4_slope 2 (some .int) :: ([.fieldLink RX4 16 "ArchWaterModel" "height" "[I", .fieldLink RX4 41 "ArchWaterModel" "arches" "I"] ++ wsX40)
def wsX4_rate : List Cond := .code yX4_rate cX4_rate 2 (some .int) :: ([.methodLink RX4 52 Lib.Math.min.name, .static Lib.Math.min.name, .initialized "java/lang/Math", .code Lib.Math.min.name Lib.Math.min.code 2 (some .int), .methodLink RX4 48 yX4_slope, .instanceMethod yX4_slope, .selects RX4 yX4_slope yX4_slope, .initialized RX4, .code yX4_slope cX4_slope 2 (some .int), .fieldLink RX4 16 "ArchWaterModel" "height" "[I", .fieldLink RX4 41 "ArchWaterModel" "arches" "I"] ++ wsX40)
def wsX3_grind : List Cond := .code yX3_grind cX3_grind 3 none :: ([.fieldLink RX3 38 "ArchWaterModel$State" "took" "[I", .fieldLink RX3 53 "ArchWaterModel$State" "coins" "I", .fieldLink RX3 35 "ArchWaterModel$State" "flour" "[I", .fieldLink RX3 66 "ArchWaterModel$State" "used" "I", .fieldLink RX3 63 "ArchWaterModel$State" "spilt" "I", .fieldLink RX3 3 "ArchWaterModel$State" "this$0" "LArchWaterModel;", .methodLink RX3 81 Lib.Math.min.name, .static Lib.Math.min.name, .initialized "java/lang/Math", .code Lib.Math.min.name Lib.Math.min.code 2 (some .int), .methodLink RX3 97 yX3_come, .instanceMethod yX3_come, .selects RX3 yX3_come yX3_come, .initialized RX3, .code yX3_come cX3_come 4 (some .int), .fieldLink RX3 19 "ArchWaterModel$State" "water" "[I", .fieldLink RX3 15 "ArchWaterModel$State" "holds" "I", .fieldLink RX3 50 "ArchWaterModel$State" "cistern" "I"] ++ wsX30 ++ wsX40)
def wsX3_pass_r1 : List Cond := [Cond.fieldLink RX3 47 "ArchWaterModel$State" "hour" "I", Cond.fieldLink RX3 72 "ArchWaterModel$State" "thirst" "I", Cond.fieldLink RX3 3 "ArchWaterModel$State" "this$0" "LArchWaterModel;", Cond.fieldLink RX3 50 "ArchWaterModel$State" "cistern" "I", Cond.methodLink RX3 81 Lib.Math.min.name, Cond.static Lib.Math.min.name, Cond.initialized "java/lang/Math", Cond.code Lib.Math.min.name Lib.Math.min.code 2 (some .int), Cond.fieldLink RX3 69 "ArchWaterModel$State" "drunk" "I", Cond.fieldLink RX3 19 "ArchWaterModel$State" "water" "[I", Cond.fieldLink RX3 38 "ArchWaterModel$State" "took" "[I", Cond.fieldLink RX3 32 "ArchWaterModel$State" "tenths" "[I", Cond.fieldLink RX3 60 "ArchWaterModel$State" "given" "I", Cond.fieldLink RX3 63 "ArchWaterModel$State" "spilt" "I", Cond.fieldLink RX3 26 "ArchWaterModel$State" "drops" "[I", Cond.fieldLink RX3 23 "ArchWaterModel$State" "wear" "[I", Cond.fieldLink RX3 29 "ArchWaterModel$State" "leaked" "[I", Cond.instanceMethod yX4_rate, Cond.initialized RX4, Cond.selects RX4 yX4_rate yX4_rate, Cond.code yX4_rate cX4_rate 2 (some .int), Cond.methodLink RX4 52 Lib.Math.min.name, Cond.methodLink RX4 48 yX4_slope, Cond.instanceMethod yX4_slope]
def wsX3_pass_r2 : List Cond := [Cond.selects RX4 yX4_slope yX4_slope, Cond.code yX4_slope cX4_slope 2 (some .int), Cond.fieldLink RX4 16 "ArchWaterModel" "height" "[I", Cond.fieldLink RX4 41 "ArchWaterModel" "arches" "I", Cond.methodLink RX3 97 yX3_come, Cond.instanceMethod yX3_come, Cond.selects RX3 yX3_come yX3_come, Cond.initialized RX3, Cond.code yX3_come cX3_come 4 (some .int), Cond.fieldLink RX3 15 "ArchWaterModel$State" "holds" "I", Cond.methodLink RX3 100 yX3_grind, Cond.instanceMethod yX3_grind, Cond.selects RX3 yX3_grind yX3_grind, Cond.code yX3_grind cX3_grind 3 none, Cond.fieldLink RX3 53 "ArchWaterModel$State" "coins" "I", Cond.fieldLink RX3 35 "ArchWaterModel$State" "flour" "[I", Cond.fieldLink RX3 66 "ArchWaterModel$State" "used" "I"]
def wsX3_pass : List Cond := .code yX3_pass cX3_pass 6 (some .int) :: ((wsX3_pass_r1 ++ wsX3_pass_r2) ++ wsX30 ++ wsX40)
def wsX3_over : List Cond := .code yX3_over cX3_over 4 (some .int) :: ([.fieldLink RX3 3 "ArchWaterModel$State" "this$0" "LArchWaterModel;"] ++ wsX30 ++ wsX40)
def wsX4_init_r1 : List Cond := [Cond.methodLink RX4 1 objectInit, Cond.instanceMethod objectInit, Cond.code objectInit ⟨#[0xb1]⟩ 1 none, Cond.arrayClass .int, Cond.fieldLink RX4 9 "ArchWaterModel" "spring" "[I", Cond.fieldLink RX4 13 "ArchWaterModel" "city" "[I", Cond.fieldLink RX4 16 "ArchWaterModel" "height" "[I", Cond.fieldLink RX4 19 "ArchWaterModel" "size" "[I", Cond.fieldLink RX4 22 "ArchWaterModel" "appetite" "[I", Cond.classLink RX4 25 RX3, Cond.instantiable RX3 17, Cond.initialized RX3, Cond.fieldLink RX4 30 "ArchWaterModel" "s" "LArchWaterModel$State;", Cond.fieldLink RX4 34 "ArchWaterModel" "ahead" "LArchWaterModel$State;", Cond.instanceMethod yX3_init, Cond.code yX3_init cX3_init 2 none, Cond.fieldLink RX3 3 "ArchWaterModel$State" "this$0" "LArchWaterModel;", Cond.methodLink RX3 9 objectInit, Cond.fieldLink RX3 15 "ArchWaterModel$State" "holds" "I", Cond.fieldLink RX3 19 "ArchWaterModel$State" "water" "[I", Cond.fieldLink RX3 23 "ArchWaterModel$State" "wear" "[I", Cond.fieldLink RX3 26 "ArchWaterModel$State" "drops" "[I", Cond.fieldLink RX3 29 "ArchWaterModel$State" "leaked" "[I", Cond.fieldLink RX3 32 "ArchWaterModel$State" "tenths" "[I"]
def wsX4_init_r2 : List Cond := [Cond.fieldLink RX3 35 "ArchWaterModel$State" "flour" "[I", Cond.fieldLink RX3 38 "ArchWaterModel$State" "took" "[I"]
def wsX4_init : List Cond := .code yX4_init cX4_init 1 none :: ((wsX4_init_r1 ++ wsX4_init_r2) ++ wsX40 ++ wsX30)
def wsX4_thrown : List Cond := .code yX4_thrown cX4_thrown 1 (some .int) :: ([.fieldLink RX4 37 "ArchWaterModel" "thrown" "I"] ++ wsX40)
def wsX4_no : List Cond := .code yX4_no cX4_no 2 (some .int) :: ([.fieldLink RX4 37 "ArchWaterModel" "thrown" "I"] ++ wsX40)
def wsX4_isIn : List Cond := .code yX4_isIn cX4_isIn 3 (some .boolean) :: ([])
def wsX4_isArch : List Cond := .code yX4_isArch cX4_isArch 2 (some .boolean) :: ([.fieldLink RX4 41 "ArchWaterModel" "arches" "I", .methodLink RX4 44 yX4_isIn, .static yX4_isIn, .initialized RX4, .code yX4_isIn cX4_isIn 3 (some .boolean)] ++ wsX40)
def wsX4_build : List Cond := .code yX4_build cX4_build 3 (some .int) :: ([.fieldLink RX4 37 "ArchWaterModel" "thrown" "I", .fieldLink RX4 41 "ArchWaterModel" "arches" "I", .fieldLink RX4 16 "ArchWaterModel" "height" "[I", .fieldLink RX4 19 "ArchWaterModel" "size" "[I", .methodLink RX4 44 yX4_isIn, .static yX4_isIn, .initialized RX4, .code yX4_isIn cX4_isIn 3 (some .boolean), .methodLink RX4 58 yX4_no, .instanceMethod yX4_no, .selects RX4 yX4_no yX4_no, .code yX4_no cX4_no 2 (some .int)] ++ wsX40)
def wsX4_set : List Cond := .code yX4_set cX4_set 5 (some .int) :: ([.fieldLink RX4 37 "ArchWaterModel" "thrown" "I", .methodLink RX4 44 yX4_isIn, .static yX4_isIn, .initialized RX4, .code yX4_isIn cX4_isIn 3 (some .boolean), .methodLink RX4 58 yX4_no, .instanceMethod yX4_no, .selects RX4 yX4_no yX4_no, .code yX4_no cX4_no 2 (some .int)] ++ wsX40)
def wsX4_setSpring : List Cond := .code yX4_setSpring cX4_setSpring 3 (some .int) :: ([.fieldLink RX4 9 "ArchWaterModel" "spring" "[I", .methodLink RX4 61 yX4_set, .instanceMethod yX4_set, .selects RX4 yX4_set yX4_set, .initialized RX4, .code yX4_set cX4_set 5 (some .int), .fieldLink RX4 37 "ArchWaterModel" "thrown" "I", .methodLink RX4 44 yX4_isIn, .static yX4_isIn, .code yX4_isIn cX4_isIn 3 (some .boolean), .methodLink RX4 58 yX4_no, .instanceMethod yX4_no, .selects RX4 yX4_no yX4_no, .code yX4_no cX4_no 2 (some .int)] ++ wsX40)
def wsX4_setCity : List Cond := .code yX4_setCity cX4_setCity 3 (some .int) :: ([.fieldLink RX4 13 "ArchWaterModel" "city" "[I", .methodLink RX4 61 yX4_set, .instanceMethod yX4_set, .selects RX4 yX4_set yX4_set, .initialized RX4, .code yX4_set cX4_set 5 (some .int), .fieldLink RX4 37 "ArchWaterModel" "thrown" "I", .methodLink RX4 44 yX4_isIn, .static yX4_isIn, .code yX4_isIn cX4_isIn 3 (some .boolean), .methodLink RX4 58 yX4_no, .instanceMethod yX4_no, .selects RX4 yX4_no yX4_no, .code yX4_no cX4_no 2 (some .int)] ++ wsX40)
def wsX4_setCistern : List Cond := .code yX4_setCistern cX4_setCistern 3 (some .int) :: ([.fieldLink RX4 37 "ArchWaterModel" "thrown" "I", .fieldLink RX4 30 "ArchWaterModel" "s" "LArchWaterModel$State;", .methodLink RX4 68 Lib.Math.max.name, .static Lib.Math.max.name, .initialized "java/lang/Math", .code Lib.Math.max.name Lib.Math.max.code 2 (some .int), .methodLink RX4 44 yX4_isIn, .static yX4_isIn, .initialized RX4, .code yX4_isIn cX4_isIn 3 (some .boolean), .methodLink RX4 58 yX4_no, .instanceMethod yX4_no, .selects RX4 yX4_no yX4_no, .code yX4_no cX4_no 2 (some .int)] ++ wsX40 ++ wsX30)
def wsX4_archTold : List Cond := .code yX4_archTold cX4_archTold 4 (some .int) :: ([.arrayClass .int, .fieldLink RX4 16 "ArchWaterModel" "height" "[I", .fieldLink RX4 19 "ArchWaterModel" "size" "[I", .fieldLink RX4 30 "ArchWaterModel" "s" "LArchWaterModel$State;", .fieldLink RX4 22 "ArchWaterModel" "appetite" "[I", .methodLink RX4 48 yX4_slope, .instanceMethod yX4_slope, .selects RX4 yX4_slope yX4_slope, .initialized RX4, .code yX4_slope cX4_slope 2 (some .int), .fieldLink RX4 41 "ArchWaterModel" "arches" "I", .methodLink RX4 86 yX4_rate, .instanceMethod yX4_rate, .selects RX4 yX4_rate yX4_rate, .code yX4_rate cX4_rate 2 (some .int), .methodLink RX4 52 Lib.Math.min.name, .static Lib.Math.min.name, .initialized "java/lang/Math", .code Lib.Math.min.name Lib.Math.min.code 2 (some .int)] ++ wsX40 ++ wsX30)
def wsX4_arch_r1 : List Cond := [Cond.fieldLink RX4 37 "ArchWaterModel" "thrown" "I", Cond.methodLink RX4 92 yX4_isArch, Cond.instanceMethod yX4_isArch, Cond.selects RX4 yX4_isArch yX4_isArch, Cond.initialized RX4, Cond.code yX4_isArch cX4_isArch 2 (some .boolean), Cond.fieldLink RX4 41 "ArchWaterModel" "arches" "I", Cond.methodLink RX4 44 yX4_isIn, Cond.static yX4_isIn, Cond.code yX4_isIn cX4_isIn 3 (some .boolean), Cond.methodLink RX4 96 yX4_archTold, Cond.instanceMethod yX4_archTold, Cond.selects RX4 yX4_archTold yX4_archTold, Cond.code yX4_archTold cX4_archTold 4 (some .int), Cond.arrayClass .int, Cond.fieldLink RX4 16 "ArchWaterModel" "height" "[I", Cond.fieldLink RX4 19 "ArchWaterModel" "size" "[I", Cond.fieldLink RX4 30 "ArchWaterModel" "s" "LArchWaterModel$State;", Cond.fieldLink RX4 22 "ArchWaterModel" "appetite" "[I", Cond.methodLink RX4 48 yX4_slope, Cond.instanceMethod yX4_slope, Cond.selects RX4 yX4_slope yX4_slope, Cond.code yX4_slope cX4_slope 2 (some .int), Cond.methodLink RX4 86 yX4_rate]
def wsX4_arch_r2 : List Cond := [Cond.instanceMethod yX4_rate, Cond.selects RX4 yX4_rate yX4_rate, Cond.code yX4_rate cX4_rate 2 (some .int), Cond.methodLink RX4 52 Lib.Math.min.name, Cond.static Lib.Math.min.name, Cond.initialized "java/lang/Math", Cond.code Lib.Math.min.name Lib.Math.min.code 2 (some .int), Cond.methodLink RX4 58 yX4_no, Cond.instanceMethod yX4_no, Cond.selects RX4 yX4_no yX4_no, Cond.code yX4_no cX4_no 2 (some .int)]
def wsX4_arch : List Cond := .code yX4_arch cX4_arch 3 (some .int) :: ((wsX4_arch_r1 ++ wsX4_arch_r2) ++ wsX40 ++ wsX30)
def wsX4_mills : List Cond := .code yX4_mills cX4_mills 3 (some .int) :: ([.fieldLink RX4 41 "ArchWaterModel" "arches" "I", .fieldLink RX4 22 "ArchWaterModel" "appetite" "[I"] ++ wsX40)
def wsX4_addMill : List Cond := .code yX4_addMill cX4_addMill 3 (some .int) :: ([.fieldLink RX4 37 "ArchWaterModel" "thrown" "I", .fieldLink RX4 22 "ArchWaterModel" "appetite" "[I", .methodLink RX4 92 yX4_isArch, .instanceMethod yX4_isArch, .selects RX4 yX4_isArch yX4_isArch, .initialized RX4, .code yX4_isArch cX4_isArch 2 (some .boolean), .fieldLink RX4 41 "ArchWaterModel" "arches" "I", .methodLink RX4 44 yX4_isIn, .static yX4_isIn, .code yX4_isIn cX4_isIn 3 (some .boolean), .methodLink RX4 58 yX4_no, .instanceMethod yX4_no, .selects RX4 yX4_no yX4_no, .code yX4_no cX4_no 2 (some .int), .methodLink RX4 99 yX4_mills, .instanceMethod yX4_mills, .selects RX4 yX4_mills yX4_mills, .code yX4_mills cX4_mills 3 (some .int)] ++ wsX40)
def wsX4_setSluice : List Cond := .code yX4_setSluice cX4_setSluice 4 (some .int) :: ([.fieldLink RX4 37 "ArchWaterModel" "thrown" "I", .fieldLink RX4 22 "ArchWaterModel" "appetite" "[I", .fieldLink RX4 30 "ArchWaterModel" "s" "LArchWaterModel$State;", .methodLink RX4 92 yX4_isArch, .instanceMethod yX4_isArch, .selects RX4 yX4_isArch yX4_isArch, .initialized RX4, .code yX4_isArch cX4_isArch 2 (some .boolean), .fieldLink RX4 41 "ArchWaterModel" "arches" "I", .methodLink RX4 44 yX4_isIn, .static yX4_isIn, .code yX4_isIn cX4_isIn 3 (some .boolean), .methodLink RX4 58 yX4_no, .instanceMethod yX4_no, .selects RX4 yX4_no yX4_no, .code yX4_no cX4_no 2 (some .int)] ++ wsX40 ++ wsX30)
def wsX4_millTold : List Cond := .code yX4_millTold cX4_millTold 3 (some .int) :: ([.fieldLink RX4 22 "ArchWaterModel" "appetite" "[I", .fieldLink RX4 30 "ArchWaterModel" "s" "LArchWaterModel$State;"] ++ wsX40 ++ wsX30)
def wsX4_mill : List Cond := .code yX4_mill cX4_mill 3 (some .int) :: ([.fieldLink RX4 37 "ArchWaterModel" "thrown" "I", .methodLink RX4 92 yX4_isArch, .instanceMethod yX4_isArch, .selects RX4 yX4_isArch yX4_isArch, .initialized RX4, .code yX4_isArch cX4_isArch 2 (some .boolean), .fieldLink RX4 41 "ArchWaterModel" "arches" "I", .methodLink RX4 44 yX4_isIn, .static yX4_isIn, .code yX4_isIn cX4_isIn 3 (some .boolean), .methodLink RX4 112 yX4_millTold, .instanceMethod yX4_millTold, .selects RX4 yX4_millTold yX4_millTold, .code yX4_millTold cX4_millTold 3 (some .int), .fieldLink RX4 22 "ArchWaterModel" "appetite" "[I", .fieldLink RX4 30 "ArchWaterModel" "s" "LArchWaterModel$State;", .methodLink RX4 58 yX4_no, .instanceMethod yX4_no, .selects RX4 yX4_no yX4_no, .code yX4_no cX4_no 2 (some .int)] ++ wsX40 ++ wsX30)
def wsX4_mend : List Cond := .code yX4_mend cX4_mend 2 (some .int) :: ([.fieldLink RX4 37 "ArchWaterModel" "thrown" "I", .fieldLink RX4 30 "ArchWaterModel" "s" "LArchWaterModel$State;", .methodLink RX4 68 Lib.Math.max.name, .static Lib.Math.max.name, .initialized "java/lang/Math", .code Lib.Math.max.name Lib.Math.max.code 2 (some .int), .methodLink RX4 92 yX4_isArch, .instanceMethod yX4_isArch, .selects RX4 yX4_isArch yX4_isArch, .initialized RX4, .code yX4_isArch cX4_isArch 2 (some .boolean), .fieldLink RX4 41 "ArchWaterModel" "arches" "I", .methodLink RX4 44 yX4_isIn, .static yX4_isIn, .code yX4_isIn cX4_isIn 3 (some .boolean), .methodLink RX4 58 yX4_no, .instanceMethod yX4_no, .selects RX4 yX4_no yX4_no, .code yX4_no cX4_no 2 (some .int)] ++ wsX40 ++ wsX30)
def wsX4_quake : List Cond := .code yX4_quake cX4_quake 3 (some .int) :: ([.fieldLink RX4 37 "ArchWaterModel" "thrown" "I", .fieldLink RX4 30 "ArchWaterModel" "s" "LArchWaterModel$State;", .methodLink RX4 52 Lib.Math.min.name, .static Lib.Math.min.name, .initialized "java/lang/Math", .code Lib.Math.min.name Lib.Math.min.code 2 (some .int), .methodLink RX4 92 yX4_isArch, .instanceMethod yX4_isArch, .selects RX4 yX4_isArch yX4_isArch, .initialized RX4, .code yX4_isArch cX4_isArch 2 (some .boolean), .fieldLink RX4 41 "ArchWaterModel" "arches" "I", .methodLink RX4 44 yX4_isIn, .static yX4_isIn, .code yX4_isIn cX4_isIn 3 (some .boolean), .methodLink RX4 58 yX4_no, .instanceMethod yX4_no, .selects RX4 yX4_no yX4_no, .code yX4_no cX4_no 2 (some .int)] ++ wsX40 ++ wsX30)
def wsX4_pass_r1 : List Cond := [Cond.methodLink RX4 118 yX3_pass, Cond.instanceMethod yX3_pass, Cond.selects RX3 yX3_pass yX3_pass, Cond.initialized RX3, Cond.code yX3_pass cX3_pass 6 (some .int), Cond.fieldLink RX3 47 "ArchWaterModel$State" "hour" "I", Cond.fieldLink RX3 72 "ArchWaterModel$State" "thirst" "I", Cond.fieldLink RX3 3 "ArchWaterModel$State" "this$0" "LArchWaterModel;", Cond.fieldLink RX3 50 "ArchWaterModel$State" "cistern" "I", Cond.methodLink RX3 81 Lib.Math.min.name, Cond.static Lib.Math.min.name, Cond.initialized "java/lang/Math", Cond.code Lib.Math.min.name Lib.Math.min.code 2 (some .int), Cond.fieldLink RX3 69 "ArchWaterModel$State" "drunk" "I", Cond.fieldLink RX3 19 "ArchWaterModel$State" "water" "[I", Cond.fieldLink RX3 38 "ArchWaterModel$State" "took" "[I", Cond.fieldLink RX3 32 "ArchWaterModel$State" "tenths" "[I", Cond.fieldLink RX3 60 "ArchWaterModel$State" "given" "I", Cond.fieldLink RX3 63 "ArchWaterModel$State" "spilt" "I", Cond.fieldLink RX3 26 "ArchWaterModel$State" "drops" "[I", Cond.fieldLink RX3 23 "ArchWaterModel$State" "wear" "[I", Cond.fieldLink RX3 29 "ArchWaterModel$State" "leaked" "[I", Cond.instanceMethod yX4_rate, Cond.initialized RX4]
def wsX4_pass_r2 : List Cond := [Cond.selects RX4 yX4_rate yX4_rate, Cond.code yX4_rate cX4_rate 2 (some .int), Cond.methodLink RX4 52 Lib.Math.min.name, Cond.methodLink RX4 48 yX4_slope, Cond.instanceMethod yX4_slope, Cond.selects RX4 yX4_slope yX4_slope, Cond.code yX4_slope cX4_slope 2 (some .int), Cond.fieldLink RX4 16 "ArchWaterModel" "height" "[I", Cond.fieldLink RX4 41 "ArchWaterModel" "arches" "I", Cond.methodLink RX3 97 yX3_come, Cond.instanceMethod yX3_come, Cond.selects RX3 yX3_come yX3_come, Cond.code yX3_come cX3_come 4 (some .int), Cond.fieldLink RX3 15 "ArchWaterModel$State" "holds" "I", Cond.methodLink RX3 100 yX3_grind, Cond.instanceMethod yX3_grind, Cond.selects RX3 yX3_grind yX3_grind, Cond.code yX3_grind cX3_grind 3 none, Cond.fieldLink RX3 53 "ArchWaterModel$State" "coins" "I", Cond.fieldLink RX3 35 "ArchWaterModel$State" "flour" "[I", Cond.fieldLink RX3 66 "ArchWaterModel$State" "used" "I"]
def wsX4_pass : List Cond := .code yX4_pass cX4_pass 4 (some .int) :: ((wsX4_pass_r1 ++ wsX4_pass_r2) ++ wsX30 ++ wsX40)
def wsX4_pass__r1 : List Cond := [Cond.fieldLink RX4 37 "ArchWaterModel" "thrown" "I", Cond.fieldLink RX4 30 "ArchWaterModel" "s" "LArchWaterModel$State;", Cond.methodLink RX4 44 yX4_isIn, Cond.static yX4_isIn, Cond.initialized RX4, Cond.code yX4_isIn cX4_isIn 3 (some .boolean), Cond.methodLink RX4 121 yX4_pass, Cond.static yX4_pass, Cond.code yX4_pass cX4_pass 4 (some .int), Cond.methodLink RX4 118 yX3_pass, Cond.instanceMethod yX3_pass, Cond.selects RX3 yX3_pass yX3_pass, Cond.initialized RX3, Cond.code yX3_pass cX3_pass 6 (some .int), Cond.fieldLink RX3 47 "ArchWaterModel$State" "hour" "I", Cond.fieldLink RX3 72 "ArchWaterModel$State" "thirst" "I", Cond.fieldLink RX3 3 "ArchWaterModel$State" "this$0" "LArchWaterModel;", Cond.fieldLink RX3 50 "ArchWaterModel$State" "cistern" "I", Cond.methodLink RX3 81 Lib.Math.min.name, Cond.static Lib.Math.min.name, Cond.initialized "java/lang/Math", Cond.code Lib.Math.min.name Lib.Math.min.code 2 (some .int), Cond.fieldLink RX3 69 "ArchWaterModel$State" "drunk" "I", Cond.fieldLink RX3 19 "ArchWaterModel$State" "water" "[I"]
def wsX4_pass__r2 : List Cond := [Cond.fieldLink RX3 38 "ArchWaterModel$State" "took" "[I", Cond.fieldLink RX3 32 "ArchWaterModel$State" "tenths" "[I", Cond.fieldLink RX3 60 "ArchWaterModel$State" "given" "I", Cond.fieldLink RX3 63 "ArchWaterModel$State" "spilt" "I", Cond.fieldLink RX3 26 "ArchWaterModel$State" "drops" "[I", Cond.fieldLink RX3 23 "ArchWaterModel$State" "wear" "[I", Cond.fieldLink RX3 29 "ArchWaterModel$State" "leaked" "[I", Cond.instanceMethod yX4_rate, Cond.selects RX4 yX4_rate yX4_rate, Cond.code yX4_rate cX4_rate 2 (some .int), Cond.methodLink RX4 52 Lib.Math.min.name, Cond.methodLink RX4 48 yX4_slope, Cond.instanceMethod yX4_slope, Cond.selects RX4 yX4_slope yX4_slope, Cond.code yX4_slope cX4_slope 2 (some .int), Cond.fieldLink RX4 16 "ArchWaterModel" "height" "[I", Cond.fieldLink RX4 41 "ArchWaterModel" "arches" "I", Cond.methodLink RX3 97 yX3_come, Cond.instanceMethod yX3_come, Cond.selects RX3 yX3_come yX3_come, Cond.code yX3_come cX3_come 4 (some .int), Cond.fieldLink RX3 15 "ArchWaterModel$State" "holds" "I", Cond.methodLink RX3 100 yX3_grind, Cond.instanceMethod yX3_grind]
def wsX4_pass__r3 : List Cond := [Cond.selects RX3 yX3_grind yX3_grind, Cond.code yX3_grind cX3_grind 3 none, Cond.fieldLink RX3 53 "ArchWaterModel$State" "coins" "I", Cond.fieldLink RX3 35 "ArchWaterModel$State" "flour" "[I", Cond.fieldLink RX3 66 "ArchWaterModel$State" "used" "I", Cond.methodLink RX4 58 yX4_no, Cond.instanceMethod yX4_no, Cond.selects RX4 yX4_no yX4_no, Cond.code yX4_no cX4_no 2 (some .int)]
def wsX4_pass_ : List Cond := .code yX4_pass_ cX4_pass_ 2 (some .int) :: ((wsX4_pass__r1 ++ (wsX4_pass__r2 ++ wsX4_pass__r3)) ++ wsX40 ++ wsX30)
def wsX4_counted : List Cond := .code yX4_counted cX4_counted 3 (some .int) :: ([.arrayClass .int, .fieldLink RX4 30 "ArchWaterModel" "s" "LArchWaterModel$State;", .fieldLink RX4 41 "ArchWaterModel" "arches" "I", .methodLink RX4 99 yX4_mills, .instanceMethod yX4_mills, .selects RX4 yX4_mills yX4_mills, .initialized RX4, .code yX4_mills cX4_mills 3 (some .int), .fieldLink RX4 22 "ArchWaterModel" "appetite" "[I", .methodLink RX4 127 yX3_over, .instanceMethod yX3_over, .selects RX3 yX3_over yX3_over, .initialized RX3, .code yX3_over cX3_over 4 (some .int), .fieldLink RX3 3 "ArchWaterModel$State" "this$0" "LArchWaterModel;"] ++ wsX40 ++ wsX30)
def wsX4_count_r1 : List Cond := [Cond.fieldLink RX4 37 "ArchWaterModel" "thrown" "I", Cond.methodLink RX4 44 yX4_isIn, Cond.static yX4_isIn, Cond.initialized RX4, Cond.code yX4_isIn cX4_isIn 3 (some .boolean), Cond.methodLink RX4 143 yX4_counted, Cond.instanceMethod yX4_counted, Cond.selects RX4 yX4_counted yX4_counted, Cond.code yX4_counted cX4_counted 3 (some .int), Cond.arrayClass .int, Cond.fieldLink RX4 30 "ArchWaterModel" "s" "LArchWaterModel$State;", Cond.fieldLink RX4 41 "ArchWaterModel" "arches" "I", Cond.methodLink RX4 99 yX4_mills, Cond.instanceMethod yX4_mills, Cond.selects RX4 yX4_mills yX4_mills, Cond.code yX4_mills cX4_mills 3 (some .int), Cond.fieldLink RX4 22 "ArchWaterModel" "appetite" "[I", Cond.methodLink RX4 127 yX3_over, Cond.instanceMethod yX3_over, Cond.selects RX3 yX3_over yX3_over, Cond.initialized RX3, Cond.code yX3_over cX3_over 4 (some .int), Cond.fieldLink RX3 3 "ArchWaterModel$State" "this$0" "LArchWaterModel;", Cond.methodLink RX4 58 yX4_no]
def wsX4_count_r2 : List Cond := [Cond.instanceMethod yX4_no, Cond.selects RX4 yX4_no yX4_no, Cond.code yX4_no cX4_no 2 (some .int)]
def wsX4_count : List Cond := .code yX4_count cX4_count 2 (some .int) :: ((wsX4_count_r1 ++ wsX4_count_r2) ++ wsX40 ++ wsX30)
def wsX4_foresee_r1 : List Cond := [Cond.fieldLink RX4 37 "ArchWaterModel" "thrown" "I", Cond.fieldLink RX4 34 "ArchWaterModel" "ahead" "LArchWaterModel$State;", Cond.fieldLink RX4 30 "ArchWaterModel" "s" "LArchWaterModel$State;", Cond.methodLink RX4 44 yX4_isIn, Cond.static yX4_isIn, Cond.initialized RX4, Cond.code yX4_isIn cX4_isIn 3 (some .boolean), Cond.methodLink RX4 58 yX4_no, Cond.instanceMethod yX4_no, Cond.selects RX4 yX4_no yX4_no, Cond.code yX4_no cX4_no 2 (some .int), Cond.methodLink RX4 146 yX3_become, Cond.instanceMethod yX3_become, Cond.selects RX3 yX3_become yX3_become, Cond.initialized RX3, Cond.code yX3_become cX3_become 2 none, Cond.fieldLink RX3 47 "ArchWaterModel$State" "hour" "I", Cond.fieldLink RX3 50 "ArchWaterModel$State" "cistern" "I", Cond.fieldLink RX3 15 "ArchWaterModel$State" "holds" "I", Cond.fieldLink RX3 53 "ArchWaterModel$State" "coins" "I", Cond.fieldLink RX3 19 "ArchWaterModel$State" "water" "[I", Cond.fieldLink RX3 23 "ArchWaterModel$State" "wear" "[I", Cond.fieldLink RX3 26 "ArchWaterModel$State" "drops" "[I", Cond.fieldLink RX3 29 "ArchWaterModel$State" "leaked" "[I"]
def wsX4_foresee_r2 : List Cond := [Cond.fieldLink RX3 32 "ArchWaterModel$State" "tenths" "[I", Cond.fieldLink RX3 35 "ArchWaterModel$State" "flour" "[I", Cond.fieldLink RX3 38 "ArchWaterModel$State" "took" "[I", Cond.fieldLink RX3 60 "ArchWaterModel$State" "given" "I", Cond.fieldLink RX3 63 "ArchWaterModel$State" "spilt" "I", Cond.fieldLink RX3 66 "ArchWaterModel$State" "used" "I", Cond.fieldLink RX3 69 "ArchWaterModel$State" "drunk" "I", Cond.fieldLink RX3 72 "ArchWaterModel$State" "thirst" "I", Cond.methodLink RX3 56 yX3_copy, Cond.instanceMethod yX3_copy, Cond.selects RX3 yX3_copy yX3_copy, Cond.code yX3_copy cX3_copy 3 none, Cond.methodLink RX3 41 arraycopyName, Cond.native arraycopyName, Cond.static arraycopyName, Cond.initialized "java/lang/System", Cond.methodLink RX4 121 yX4_pass, Cond.static yX4_pass, Cond.code yX4_pass cX4_pass 4 (some .int), Cond.methodLink RX4 118 yX3_pass, Cond.instanceMethod yX3_pass, Cond.selects RX3 yX3_pass yX3_pass, Cond.code yX3_pass cX3_pass 6 (some .int), Cond.fieldLink RX3 3 "ArchWaterModel$State" "this$0" "LArchWaterModel;"]
def wsX4_foresee_r3 : List Cond := [Cond.methodLink RX3 81 Lib.Math.min.name, Cond.static Lib.Math.min.name, Cond.initialized "java/lang/Math", Cond.code Lib.Math.min.name Lib.Math.min.code 2 (some .int), Cond.instanceMethod yX4_rate, Cond.selects RX4 yX4_rate yX4_rate, Cond.code yX4_rate cX4_rate 2 (some .int), Cond.methodLink RX4 52 Lib.Math.min.name, Cond.methodLink RX4 48 yX4_slope, Cond.instanceMethod yX4_slope, Cond.selects RX4 yX4_slope yX4_slope, Cond.code yX4_slope cX4_slope 2 (some .int), Cond.fieldLink RX4 16 "ArchWaterModel" "height" "[I", Cond.fieldLink RX4 41 "ArchWaterModel" "arches" "I", Cond.methodLink RX3 97 yX3_come, Cond.instanceMethod yX3_come, Cond.selects RX3 yX3_come yX3_come, Cond.code yX3_come cX3_come 4 (some .int), Cond.methodLink RX3 100 yX3_grind, Cond.instanceMethod yX3_grind, Cond.selects RX3 yX3_grind yX3_grind, Cond.code yX3_grind cX3_grind 3 none, Cond.methodLink RX4 127 yX3_over, Cond.instanceMethod yX3_over]
def wsX4_foresee_r4 : List Cond := [Cond.selects RX3 yX3_over yX3_over, Cond.code yX3_over cX3_over 4 (some .int)]
def wsX4_foresee : List Cond := .code yX4_foresee cX4_foresee 4 (some .int) :: ((wsX4_foresee_r1 ++ (wsX4_foresee_r2 ++ (wsX4_foresee_r3 ++ wsX4_foresee_r4))) ++ wsX40 ++ wsX30)
def wsX4_advise_r1 : List Cond := [Cond.fieldLink RX4 37 "ArchWaterModel" "thrown" "I", Cond.fieldLink RX4 34 "ArchWaterModel" "ahead" "LArchWaterModel$State;", Cond.fieldLink RX4 30 "ArchWaterModel" "s" "LArchWaterModel$State;", Cond.fieldLink RX4 41 "ArchWaterModel" "arches" "I", Cond.methodLink RX4 44 yX4_isIn, Cond.static yX4_isIn, Cond.initialized RX4, Cond.code yX4_isIn cX4_isIn 3 (some .boolean), Cond.methodLink RX4 58 yX4_no, Cond.instanceMethod yX4_no, Cond.selects RX4 yX4_no yX4_no, Cond.code yX4_no cX4_no 2 (some .int), Cond.methodLink RX4 146 yX3_become, Cond.instanceMethod yX3_become, Cond.selects RX3 yX3_become yX3_become, Cond.initialized RX3, Cond.code yX3_become cX3_become 2 none, Cond.fieldLink RX3 47 "ArchWaterModel$State" "hour" "I", Cond.fieldLink RX3 50 "ArchWaterModel$State" "cistern" "I", Cond.fieldLink RX3 15 "ArchWaterModel$State" "holds" "I", Cond.fieldLink RX3 53 "ArchWaterModel$State" "coins" "I", Cond.fieldLink RX3 19 "ArchWaterModel$State" "water" "[I", Cond.fieldLink RX3 23 "ArchWaterModel$State" "wear" "[I", Cond.fieldLink RX3 26 "ArchWaterModel$State" "drops" "[I"]
def wsX4_advise_r2 : List Cond := [Cond.fieldLink RX3 29 "ArchWaterModel$State" "leaked" "[I", Cond.fieldLink RX3 32 "ArchWaterModel$State" "tenths" "[I", Cond.fieldLink RX3 35 "ArchWaterModel$State" "flour" "[I", Cond.fieldLink RX3 38 "ArchWaterModel$State" "took" "[I", Cond.fieldLink RX3 60 "ArchWaterModel$State" "given" "I", Cond.fieldLink RX3 63 "ArchWaterModel$State" "spilt" "I", Cond.fieldLink RX3 66 "ArchWaterModel$State" "used" "I", Cond.fieldLink RX3 69 "ArchWaterModel$State" "drunk" "I", Cond.fieldLink RX3 72 "ArchWaterModel$State" "thirst" "I", Cond.methodLink RX3 56 yX3_copy, Cond.instanceMethod yX3_copy, Cond.selects RX3 yX3_copy yX3_copy, Cond.code yX3_copy cX3_copy 3 none, Cond.methodLink RX3 41 arraycopyName, Cond.native arraycopyName, Cond.static arraycopyName, Cond.initialized "java/lang/System", Cond.methodLink RX4 121 yX4_pass, Cond.static yX4_pass, Cond.code yX4_pass cX4_pass 4 (some .int), Cond.methodLink RX4 118 yX3_pass, Cond.instanceMethod yX3_pass, Cond.selects RX3 yX3_pass yX3_pass, Cond.code yX3_pass cX3_pass 6 (some .int)]
def wsX4_advise_r3 : List Cond := [Cond.fieldLink RX3 3 "ArchWaterModel$State" "this$0" "LArchWaterModel;", Cond.methodLink RX3 81 Lib.Math.min.name, Cond.static Lib.Math.min.name, Cond.initialized "java/lang/Math", Cond.code Lib.Math.min.name Lib.Math.min.code 2 (some .int), Cond.instanceMethod yX4_rate, Cond.selects RX4 yX4_rate yX4_rate, Cond.code yX4_rate cX4_rate 2 (some .int), Cond.methodLink RX4 52 Lib.Math.min.name, Cond.methodLink RX4 48 yX4_slope, Cond.instanceMethod yX4_slope, Cond.selects RX4 yX4_slope yX4_slope, Cond.code yX4_slope cX4_slope 2 (some .int), Cond.fieldLink RX4 16 "ArchWaterModel" "height" "[I", Cond.methodLink RX3 97 yX3_come, Cond.instanceMethod yX3_come, Cond.selects RX3 yX3_come yX3_come, Cond.code yX3_come cX3_come 4 (some .int), Cond.methodLink RX3 100 yX3_grind, Cond.instanceMethod yX3_grind, Cond.selects RX3 yX3_grind yX3_grind, Cond.code yX3_grind cX3_grind 3 none]
def wsX4_advise : List Cond := .code yX4_advise cX4_advise 6 (some .int) :: ((wsX4_advise_r1 ++ (wsX4_advise_r2 ++ wsX4_advise_r3)) ++ wsX40 ++ wsX30)
def wsX4_thirsty_r1 : List Cond := [Cond.fieldLink RX4 37 "ArchWaterModel" "thrown" "I", Cond.fieldLink RX4 34 "ArchWaterModel" "ahead" "LArchWaterModel$State;", Cond.fieldLink RX4 30 "ArchWaterModel" "s" "LArchWaterModel$State;", Cond.methodLink RX4 146 yX3_become, Cond.instanceMethod yX3_become, Cond.selects RX3 yX3_become yX3_become, Cond.initialized RX3, Cond.code yX3_become cX3_become 2 none, Cond.fieldLink RX3 47 "ArchWaterModel$State" "hour" "I", Cond.fieldLink RX3 50 "ArchWaterModel$State" "cistern" "I", Cond.fieldLink RX3 15 "ArchWaterModel$State" "holds" "I", Cond.fieldLink RX3 53 "ArchWaterModel$State" "coins" "I", Cond.fieldLink RX3 19 "ArchWaterModel$State" "water" "[I", Cond.fieldLink RX3 23 "ArchWaterModel$State" "wear" "[I", Cond.fieldLink RX3 26 "ArchWaterModel$State" "drops" "[I", Cond.fieldLink RX3 29 "ArchWaterModel$State" "leaked" "[I", Cond.fieldLink RX3 32 "ArchWaterModel$State" "tenths" "[I", Cond.fieldLink RX3 35 "ArchWaterModel$State" "flour" "[I", Cond.fieldLink RX3 38 "ArchWaterModel$State" "took" "[I", Cond.fieldLink RX3 60 "ArchWaterModel$State" "given" "I", Cond.fieldLink RX3 63 "ArchWaterModel$State" "spilt" "I", Cond.fieldLink RX3 66 "ArchWaterModel$State" "used" "I", Cond.fieldLink RX3 69 "ArchWaterModel$State" "drunk" "I", Cond.fieldLink RX3 72 "ArchWaterModel$State" "thirst" "I"]
def wsX4_thirsty_r2 : List Cond := [Cond.methodLink RX3 56 yX3_copy, Cond.instanceMethod yX3_copy, Cond.selects RX3 yX3_copy yX3_copy, Cond.code yX3_copy cX3_copy 3 none, Cond.methodLink RX3 41 arraycopyName, Cond.native arraycopyName, Cond.static arraycopyName, Cond.initialized "java/lang/System", Cond.methodLink RX4 118 yX3_pass, Cond.instanceMethod yX3_pass, Cond.selects RX3 yX3_pass yX3_pass, Cond.code yX3_pass cX3_pass 6 (some .int), Cond.fieldLink RX3 3 "ArchWaterModel$State" "this$0" "LArchWaterModel;", Cond.methodLink RX3 81 Lib.Math.min.name, Cond.static Lib.Math.min.name, Cond.initialized "java/lang/Math", Cond.code Lib.Math.min.name Lib.Math.min.code 2 (some .int), Cond.instanceMethod yX4_rate, Cond.initialized RX4, Cond.selects RX4 yX4_rate yX4_rate, Cond.code yX4_rate cX4_rate 2 (some .int), Cond.methodLink RX4 52 Lib.Math.min.name, Cond.methodLink RX4 48 yX4_slope, Cond.instanceMethod yX4_slope]
def wsX4_thirsty_r3 : List Cond := [Cond.selects RX4 yX4_slope yX4_slope, Cond.code yX4_slope cX4_slope 2 (some .int), Cond.fieldLink RX4 16 "ArchWaterModel" "height" "[I", Cond.fieldLink RX4 41 "ArchWaterModel" "arches" "I", Cond.methodLink RX3 97 yX3_come, Cond.instanceMethod yX3_come, Cond.selects RX3 yX3_come yX3_come, Cond.code yX3_come cX3_come 4 (some .int), Cond.methodLink RX3 100 yX3_grind, Cond.instanceMethod yX3_grind, Cond.selects RX3 yX3_grind yX3_grind, Cond.code yX3_grind cX3_grind 3 none]
def wsX4_thirsty : List Cond := .code yX4_thirsty cX4_thirsty 2 (some .int) :: ((wsX4_thirsty_r1 ++ (wsX4_thirsty_r2 ++ wsX4_thirsty_r3)) ++ wsX40 ++ wsX30)
def wsX4_worst : List Cond := .code yX4_worst cX4_worst 3 (some .int) :: ([.fieldLink RX4 37 "ArchWaterModel" "thrown" "I", .fieldLink RX4 41 "ArchWaterModel" "arches" "I", .fieldLink RX4 30 "ArchWaterModel" "s" "LArchWaterModel$State;"] ++ wsX40 ++ wsX30)
def wsX4_reaches : List Cond := .code yX4_reaches cX4_reaches 1 (some .double) :: ([.fieldLink RX4 37 "ArchWaterModel" "thrown" "I", .fieldLink RX4 30 "ArchWaterModel" "s" "LArchWaterModel$State;"] ++ wsX40 ++ wsX30)
def wsX4_digest_r1 : List Cond := [Cond.fieldLink RX4 37 "ArchWaterModel" "thrown" "I", Cond.constantLong RX4 150 (601), Cond.constantLong RX4 152 (31), Cond.fieldLink RX4 9 "ArchWaterModel" "spring" "[I", Cond.fieldLink RX4 13 "ArchWaterModel" "city" "[I", Cond.fieldLink RX4 41 "ArchWaterModel" "arches" "I", Cond.methodLink RX4 143 yX4_counted, Cond.instanceMethod yX4_counted, Cond.selects RX4 yX4_counted yX4_counted, Cond.initialized RX4, Cond.code yX4_counted cX4_counted 3 (some .int), Cond.arrayClass .int, Cond.fieldLink RX4 30 "ArchWaterModel" "s" "LArchWaterModel$State;", Cond.methodLink RX4 99 yX4_mills, Cond.instanceMethod yX4_mills, Cond.selects RX4 yX4_mills yX4_mills, Cond.code yX4_mills cX4_mills 3 (some .int), Cond.fieldLink RX4 22 "ArchWaterModel" "appetite" "[I", Cond.methodLink RX4 127 yX3_over, Cond.instanceMethod yX3_over, Cond.selects RX3 yX3_over yX3_over, Cond.initialized RX3, Cond.code yX3_over cX3_over 4 (some .int), Cond.fieldLink RX3 3 "ArchWaterModel$State" "this$0" "LArchWaterModel;"]
def wsX4_digest_r2 : List Cond := [Cond.methodLink RX4 96 yX4_archTold, Cond.instanceMethod yX4_archTold, Cond.selects RX4 yX4_archTold yX4_archTold, Cond.code yX4_archTold cX4_archTold 4 (some .int), Cond.fieldLink RX4 16 "ArchWaterModel" "height" "[I", Cond.fieldLink RX4 19 "ArchWaterModel" "size" "[I", Cond.methodLink RX4 48 yX4_slope, Cond.instanceMethod yX4_slope, Cond.selects RX4 yX4_slope yX4_slope, Cond.code yX4_slope cX4_slope 2 (some .int), Cond.methodLink RX4 86 yX4_rate, Cond.instanceMethod yX4_rate, Cond.selects RX4 yX4_rate yX4_rate, Cond.code yX4_rate cX4_rate 2 (some .int), Cond.methodLink RX4 52 Lib.Math.min.name, Cond.static Lib.Math.min.name, Cond.initialized "java/lang/Math", Cond.code Lib.Math.min.name Lib.Math.min.code 2 (some .int), Cond.methodLink RX4 112 yX4_millTold, Cond.instanceMethod yX4_millTold, Cond.selects RX4 yX4_millTold yX4_millTold, Cond.code yX4_millTold cX4_millTold 3 (some .int)]
def wsX4_digest : List Cond := .code yX4_digest cX4_digest 5 (some .long) :: ((wsX4_digest_r1 ++ wsX4_digest_r2) ++ wsX40 ++ wsX30)
def wsJ9_max_7cf53 : List Cond := .code yJ9_max_7cf53 cJ9_max_7cf53 2 (some .int) :: ([])
def wsJ9_min_7cf53 : List Cond := .code yJ9_min_7cf53 cJ9_min_7cf53 2 (some .int) :: ([])
set_option maxRecDepth 20000 in
theorem ggX0_init_X1_init : GoodIn wsX0_init wsX1_init := goodIn_r _ [13, 14, 2, 3] (by decide +kernel) (by decide +kernel)
set_option maxRecDepth 20000 in
theorem gX0_init_X1_init_n28 : GoodIn wsX0_init (wsX1_init) := ggX0_init_X1_init
set_option maxRecDepth 20000 in
theorem ggX0_copyFrom_X1_copyFrom : GoodIn wsX0_copyFrom wsX1_copyFrom := goodIn_r _ [22, 23, 24, 25, 26, 27, 28, 29, 30, 31, 32, 46, 47, 48, 49, 50, 51, 52, 53, 54, 55] (by decide +kernel) (by decide +kernel)
set_option maxRecDepth 20000 in
theorem gX0_copyFrom_X1_copyFrom : GoodIn wsX0_copyFrom (wsV RX0 38 RX1 yX1_copyFrom wsX1_copyFrom) := goodIn_app (goodIn_of _ (by decide +kernel)) ggX0_copyFrom_X1_copyFrom
set_option maxRecDepth 20000 in
theorem ggX0_goOn_X0_goOnAnHour : GoodIn wsX0_goOn wsX0_goOnAnHour := goodIn_r _ [5, 6, 7, 8, 9, 10, 11, 12, 13, 14, 15, 16, 17, 4, 18, 19, 20, 21, 22, 23, 24, 25, 26, 27, 28, 29, 30, 31, 32, 33, 34, 35, 36, 37, 38, 39, 40, 41, 42, 43, 44, 45, 46, 47, 48, 49, 50, 51, 52, 53, 54, 55, 56, 57, 58, 59, 60, 61, 62, 63, 64, 65, 66, 67, 68, 69, 70, 71, 72, 73, 74, 75, 76, 77, 78, 79, 80, 81, 82, 83, 84, 85, 86, 87, 88, 89, 90, 91, 92, 93, 94, 95, 96, 97, 98, 99, 100, 101, 102, 103, 104, 105, 106, 107, 108, 109, 110, 111, 112, 113, 114, 115, 116, 117, 118, 119, 120, 121, 122, 123, 124, 125, 126, 127] (by decide +kernel) (by decide +kernel)
set_option maxRecDepth 20000 in
theorem gX0_goOn_X0_goOnAnHour : GoodIn wsX0_goOn (wsV RX0 78 RX0 yX0_goOnAnHour wsX0_goOnAnHour) := goodIn_app (goodIn_of _ (by decide +kernel)) ggX0_goOn_X0_goOnAnHour
set_option maxRecDepth 20000 in
theorem ggX0_goOnAnHour_J9_floorMod_7cf53 : GoodIn wsX0_goOnAnHour wsJ9_floorMod_7cf53 := goodIn_r _ [9] (by decide +kernel) (by decide +kernel)
set_option maxRecDepth 20000 in
theorem gX0_goOnAnHour_J9_floorMod_7cf53 : GoodIn wsX0_goOnAnHour (va_wsS RX0 81 yJ9_floorMod_7cf53 wsJ9_floorMod_7cf53) := goodIn_app (goodIn_of _ (by decide +kernel)) ggX0_goOnAnHour_J9_floorMod_7cf53
set_option maxRecDepth 20000 in
theorem ggX0_goOnAnHour_X0_letCityDrink : GoodIn wsX0_goOnAnHour wsX0_letCityDrink := goodIn_r _ [14, 15, 16, 17, 18, 19, 20, 21, 101, 102, 103, 104, 105, 106, 107, 108, 109, 110, 111, 112, 113] (by decide +kernel) (by decide +kernel)
set_option maxRecDepth 20000 in
theorem gX0_goOnAnHour_X0_letCityDrink : GoodIn wsX0_goOnAnHour (wsV RX0 84 RX0 yX0_letCityDrink wsX0_letCityDrink) := goodIn_app (goodIn_of _ (by decide +kernel)) ggX0_goOnAnHour_X0_letCityDrink
set_option maxRecDepth 20000 in
theorem ggX0_goOnAnHour_X0_sendOn : GoodIn wsX0_goOnAnHour wsX0_sendOn := goodIn_r _ [25, 5, 26, 16, 17, 18, 19, 27, 28, 29, 13, 30, 31, 32, 33, 34, 3, 35, 36, 37, 38, 39, 40, 41, 42, 43, 44, 45, 46, 47, 48, 49, 50, 15, 51, 52, 53, 54, 55, 101, 102, 103, 104, 105, 106, 107, 108, 109, 110, 111, 112, 113, 114, 115, 116, 117, 118, 119, 120, 121, 122, 123] (by decide +kernel) (by decide +kernel)
set_option maxRecDepth 20000 in
theorem gX0_goOnAnHour_X0_sendOn : GoodIn wsX0_goOnAnHour (wsV RX0 88 RX0 yX0_sendOn wsX0_sendOn) := goodIn_app (goodIn_of _ (by decide +kernel)) ggX0_goOnAnHour_X0_sendOn
set_option maxRecDepth 20000 in
theorem ggX0_goOnAnHour_X0_grindAt : GoodIn wsX0_goOnAnHour wsX0_grindAt := goodIn_r _ [59, 5, 60, 61, 62, 63, 64, 65, 66, 39, 67, 68, 44, 46, 47, 48, 13, 49, 3, 50, 15, 16, 17, 18, 19, 51, 52, 53, 54, 55, 45, 43, 101, 102, 103, 104, 105, 106, 107, 108, 109, 110, 111, 112, 113, 114, 115, 116, 117, 118, 119, 120, 121, 122, 123] (by decide +kernel) (by decide +kernel)
set_option maxRecDepth 20000 in
theorem gX0_goOnAnHour_X0_grindAt : GoodIn wsX0_goOnAnHour (wsV RX0 91 RX0 yX0_grindAt wsX0_grindAt) := goodIn_app (goodIn_of _ (by decide +kernel)) ggX0_goOnAnHour_X0_grindAt
set_option maxRecDepth 20000 in
theorem ggX0_goOnAnHour_X0_letSpringGive : GoodIn wsX0_goOnAnHour wsX0_letSpringGive := goodIn_r _ [72, 73, 3, 5, 62, 51, 52, 53, 39, 54, 55, 45, 43, 17, 18, 19, 101, 102, 103, 104, 105, 106, 107, 108, 109, 110, 111, 112, 113, 114, 115, 116, 117, 118, 119, 120, 121, 122, 123] (by decide +kernel) (by decide +kernel)
set_option maxRecDepth 20000 in
theorem gX0_goOnAnHour_X0_letSpringGive : GoodIn wsX0_goOnAnHour (wsV RX0 94 RX0 yX0_letSpringGive wsX0_letSpringGive) := goodIn_app (goodIn_of _ (by decide +kernel)) ggX0_goOnAnHour_X0_letSpringGive
set_option maxRecDepth 20000 in
theorem ggX0_goOnAnHour_X1_leak : GoodIn wsX0_goOnAnHour wsX1_leak := goodIn_r _ [77, 78, 45, 79, 43, 17, 18, 19, 80, 114, 115, 116, 117, 118, 119, 120, 121, 122, 123] (by decide +kernel) (by decide +kernel)
set_option maxRecDepth 20000 in
theorem gX0_goOnAnHour_X1_leak : GoodIn wsX0_goOnAnHour (wsV RX0 97 RX1 yX1_leak wsX1_leak) := goodIn_app (goodIn_of _ (by decide +kernel)) ggX0_goOnAnHour_X1_leak
set_option maxRecDepth 20000 in
theorem ggX0_goOnAnHour_X0_wearAll : GoodIn wsX0_goOnAnHour wsX0_wearAll := goodIn_r _ [84, 3, 5, 85, 86, 87, 39, 88, 45, 89, 90, 91, 92, 41, 93, 94, 95, 96, 42, 97, 98, 99, 100, 79, 43, 17, 18, 19, 101, 102, 103, 104, 105, 106, 107, 108, 109, 110, 111, 112, 113, 114, 115, 116, 117, 118, 119, 120, 121, 122, 123] (by decide +kernel) (by decide +kernel)
set_option maxRecDepth 20000 in
theorem gX0_goOnAnHour_X0_wearAll : GoodIn wsX0_goOnAnHour (wsV RX0 100 RX0 yX0_wearAll wsX0_wearAll) := goodIn_app (goodIn_of _ (by decide +kernel)) ggX0_goOnAnHour_X0_wearAll
set_option maxRecDepth 20000 in
theorem ggX0_sendOn_X0_rate : GoodIn wsX0_sendOn wsX0_rate := goodIn_r _ [11, 3, 4, 5, 6, 12, 13, 14, 10, 15, 16, 1, 17, 39, 40, 41, 42, 43, 44, 45, 46, 47, 48, 49, 50, 51, 52, 53, 54, 55, 56, 57, 58, 59, 60, 61] (by decide +kernel) (by decide +kernel)
set_option maxRecDepth 20000 in
theorem gX0_sendOn_X0_rate : GoodIn wsX0_sendOn (wsV RX0 109 RX0 yX0_rate wsX0_rate) := goodIn_app (goodIn_of _ (by decide +kernel)) ggX0_sendOn_X0_rate
set_option maxRecDepth 20000 in
theorem ggX0_sendOn_X1_leadToMill : GoodIn wsX0_sendOn wsX1_leadToMill := goodIn_r _ [22, 23, 24, 25, 4, 5, 6, 26, 27, 52, 53, 54, 55, 56, 57, 58, 59, 60, 61] (by decide +kernel) (by decide +kernel)
set_option maxRecDepth 20000 in
theorem gX0_sendOn_X1_leadToMill : GoodIn wsX0_sendOn (wsV RX0 113 RX1 yX1_leadToMill wsX1_leadToMill) := goodIn_app (goodIn_of _ (by decide +kernel)) ggX0_sendOn_X1_leadToMill
set_option maxRecDepth 20000 in
theorem ggX0_sendOn_X0_pour : GoodIn wsX0_sendOn wsX0_pour := goodIn_r _ [31, 16, 1, 32, 33, 3, 4, 5, 6, 34, 35, 36, 21, 37, 38, 27, 25, 39, 40, 41, 42, 43, 44, 45, 46, 47, 48, 49, 50, 51, 52, 53, 54, 55, 56, 57, 58, 59, 60, 61] (by decide +kernel) (by decide +kernel)
set_option maxRecDepth 20000 in
theorem gX0_sendOn_X0_pour : GoodIn wsX0_sendOn (wsV RX0 116 RX0 yX0_pour wsX0_pour) := goodIn_app (goodIn_of _ (by decide +kernel)) ggX0_sendOn_X0_pour
set_option maxRecDepth 20000 in
theorem ggX0_grindAt_X1_grind : GoodIn wsX0_grindAt wsX1_grind := goodIn_r _ [10, 11, 12, 45, 46, 47, 48, 49, 50, 51, 52, 53, 54] (by decide +kernel) (by decide +kernel)
set_option maxRecDepth 20000 in
theorem gX0_grindAt_X1_grind : GoodIn wsX0_grindAt (wsV RX0 122 RX1 yX1_grind wsX1_grind) := goodIn_app (goodIn_of _ (by decide +kernel)) ggX0_grindAt_X1_grind
set_option maxRecDepth 20000 in
theorem ggX0_grindAt_X0_pour : GoodIn wsX0_grindAt wsX0_pour := goodIn_r _ [17, 18, 1, 19, 20, 21, 22, 23, 24, 25, 26, 27, 9, 28, 29, 30, 31, 32, 33, 34, 35, 36, 37, 38, 39, 40, 41, 42, 43, 44, 45, 46, 47, 48, 49, 50, 51, 52, 53, 54] (by decide +kernel) (by decide +kernel)
set_option maxRecDepth 20000 in
theorem gX0_grindAt_X0_pour : GoodIn wsX0_grindAt (wsV RX0 116 RX0 yX0_pour wsX0_pour) := goodIn_app (goodIn_of _ (by decide +kernel)) ggX0_grindAt_X0_pour
set_option maxRecDepth 20000 in
theorem ggX0_letSpringGive_X1_fill : GoodIn wsX0_letSpringGive wsX1_fill := goodIn_r _ [9, 10, 11, 12, 13, 14, 15, 29, 30, 31, 32, 33, 34, 35, 36, 37, 38] (by decide +kernel) (by decide +kernel)
set_option maxRecDepth 20000 in
theorem gX0_letSpringGive_X1_fill : GoodIn wsX0_letSpringGive (wsV RX0 126 RX1 yX1_fill wsX1_fill) := goodIn_app (goodIn_of _ (by decide +kernel)) ggX0_letSpringGive_X1_fill
set_option maxRecDepth 20000 in
theorem ggX0_wearAll_X1_wearOfDay : GoodIn wsX0_wearAll wsX1_wearOfDay := goodIn_r _ [7, 8, 9, 10, 11, 6, 12, 13, 14, 15, 16, 17, 18, 19, 20, 21, 22, 23, 24, 25, 26, 27, 41, 42, 43, 44, 45, 46, 47, 48, 49, 50] (by decide +kernel) (by decide +kernel)
set_option maxRecDepth 20000 in
theorem gX0_wearAll_X1_wearOfDay : GoodIn wsX0_wearAll (wsV RX0 129 RX1 yX1_wearOfDay wsX1_wearOfDay) := goodIn_app (goodIn_of _ (by decide +kernel)) ggX0_wearAll_X1_wearOfDay
set_option maxRecDepth 20000 in
theorem ggX0_pour_X1_fill : GoodIn wsX0_pour wsX1_fill := goodIn_r _ [13, 14, 15, 16, 6, 7, 8, 30, 31, 32, 33, 34, 35, 36, 37, 38, 39] (by decide +kernel) (by decide +kernel)
set_option maxRecDepth 20000 in
theorem gX0_pour_X1_fill : GoodIn wsX0_pour (wsV RX0 126 RX1 yX1_fill wsX1_fill) := goodIn_app (goodIn_of _ (by decide +kernel)) ggX0_pour_X1_fill
set_option maxRecDepth 20000 in
theorem ggX0_rate_X0_slope : GoodIn wsX0_rate wsX0_slope := goodIn_r _ [9, 10, 11, 12, 13, 14, 15, 16, 17, 18, 19, 20, 21, 22, 23, 24, 25, 26, 27, 28, 29, 30, 31, 32, 33, 34, 35] (by decide +kernel) (by decide +kernel)
set_option maxRecDepth 20000 in
theorem gX0_rate_X0_slope : GoodIn wsX0_rate (wsV RX0 132 RX0 yX0_slope wsX0_slope) := goodIn_app (goodIn_of _ (by decide +kernel)) ggX0_rate_X0_slope
set_option maxRecDepth 20000 in
theorem ggX0_mills_X1_hasMill : GoodIn wsX0_mills wsX1_hasMill := goodIn_r _ [7, 8, 22, 23, 24, 25, 26, 27, 28, 29, 30, 31] (by decide +kernel) (by decide +kernel)
set_option maxRecDepth 20000 in
theorem gX0_mills_X1_hasMill : GoodIn wsX0_mills (wsV RX0 135 RX1 yX1_hasMill wsX1_hasMill) := goodIn_app (goodIn_of _ (by decide +kernel)) ggX0_mills_X1_hasMill
set_option maxRecDepth 20000 in
theorem ggX0_archNumber_X0_slope : GoodIn wsX0_archNumber wsX0_slope := goodIn_r _ [12, 13, 1, 2, 28, 29, 30, 31, 32, 33, 34, 35, 36, 37, 38, 39, 40, 41, 42, 43, 44, 45, 46, 47, 48, 49, 50] (by decide +kernel) (by decide +kernel)
set_option maxRecDepth 20000 in
theorem gX0_archNumber_X0_slope : GoodIn wsX0_archNumber (wsV RX0 132 RX0 yX0_slope wsX0_slope) := goodIn_app (goodIn_of _ (by decide +kernel)) ggX0_archNumber_X0_slope
set_option maxRecDepth 20000 in
theorem ggX0_archNumber_X0_rate : GoodIn wsX0_archNumber wsX0_rate := goodIn_r _ [17, 18, 19, 20, 21, 8, 9, 10, 11, 12, 13, 1, 2, 28, 29, 30, 31, 32, 33, 34, 35, 36, 37, 38, 39, 40, 41, 42, 43, 44, 45, 46, 47, 48, 49, 50] (by decide +kernel) (by decide +kernel)
set_option maxRecDepth 20000 in
theorem gX0_archNumber_X0_rate : GoodIn wsX0_archNumber (wsV RX0 109 RX0 yX0_rate wsX0_rate) := goodIn_app (goodIn_of _ (by decide +kernel)) ggX0_archNumber_X0_rate
set_option maxRecDepth 20000 in
theorem ggX0_archNumber_X1_hasMill : GoodIn wsX0_archNumber wsX1_hasMill := goodIn_r _ [26, 27, 41, 42, 43, 44, 45, 46, 47, 48, 49, 50] (by decide +kernel) (by decide +kernel)
set_option maxRecDepth 20000 in
theorem gX0_archNumber_X1_hasMill : GoodIn wsX0_archNumber (wsV RX0 135 RX1 yX1_hasMill wsX1_hasMill) := goodIn_app (goodIn_of _ (by decide +kernel)) ggX0_archNumber_X1_hasMill
set_option maxRecDepth 20000 in
theorem ggX0_countNumber_X0_mills : GoodIn wsX0_countNumber wsX0_mills := goodIn_r _ [14, 2, 15, 16, 17, 18, 19, 20, 21, 32, 33, 34, 35, 36, 37, 38, 39, 40, 41, 42, 43, 44, 45, 46, 47, 48, 49, 50, 51, 52, 53, 54] (by decide +kernel) (by decide +kernel)
set_option maxRecDepth 20000 in
theorem gX0_countNumber_X0_mills : GoodIn wsX0_countNumber (wsV RX0 151 RX0 yX0_mills wsX0_mills) := goodIn_app (goodIn_of _ (by decide +kernel)) ggX0_countNumber_X0_mills
set_option maxRecDepth 20000 in
theorem ggX0_countNumber_X0_water : GoodIn wsX0_countNumber wsX0_water := goodIn_r _ [25, 2, 15, 26, 32, 33, 34, 35, 36, 37, 38, 39, 40, 41, 42, 43, 44, 45, 46, 47, 48, 49, 50, 51, 52, 53, 54] (by decide +kernel) (by decide +kernel)
set_option maxRecDepth 20000 in
theorem gX0_countNumber_X0_water : GoodIn wsX0_countNumber (wsV RX0 154 RX0 yX0_water wsX0_water) := goodIn_app (goodIn_of _ (by decide +kernel)) ggX0_countNumber_X0_water
set_option maxRecDepth 20000 in
theorem ggX0_countNumber_X0_leaked : GoodIn wsX0_countNumber wsX0_leaked := goodIn_r _ [30, 2, 15, 31, 32, 33, 34, 35, 36, 37, 38, 39, 40, 41, 42, 43, 44, 45, 46, 47, 48, 49, 50, 51, 52, 53, 54] (by decide +kernel) (by decide +kernel)
set_option maxRecDepth 20000 in
theorem gX0_countNumber_X0_leaked : GoodIn wsX0_countNumber (wsV RX0 156 RX0 yX0_leaked wsX0_leaked) := goodIn_app (goodIn_of _ (by decide +kernel)) ggX0_countNumber_X0_leaked
set_option maxRecDepth 20000 in
theorem ggX1_hasOpenSluice_X1_hasMill : GoodIn wsX1_hasOpenSluice wsX1_hasMill := goodIn_r _ [6, 7, 8, 9, 10, 11, 12, 13, 14, 15, 16, 17] (by decide +kernel) (by decide +kernel)
set_option maxRecDepth 20000 in
theorem gX1_hasOpenSluice_X1_hasMill : GoodIn wsX1_hasOpenSluice (wsV RX1 42 RX1 yX1_hasMill wsX1_hasMill) := goodIn_app (goodIn_of _ (by decide +kernel)) ggX1_hasOpenSluice_X1_hasMill
set_option maxRecDepth 20000 in
theorem ggX1_wearOfDay_X1_hasOpenSluice : GoodIn wsX1_wearOfDay wsX1_hasOpenSluice := goodIn_r _ [6, 7, 8, 9, 10, 5, 11, 12, 22, 23, 24, 25, 26, 27, 28, 29, 30, 31] (by decide +kernel) (by decide +kernel)
set_option maxRecDepth 20000 in
theorem gX1_wearOfDay_X1_hasOpenSluice : GoodIn wsX1_wearOfDay (wsV RX1 52 RX1 yX1_hasOpenSluice wsX1_hasOpenSluice) := goodIn_app (goodIn_of _ (by decide +kernel)) ggX1_wearOfDay_X1_hasOpenSluice
set_option maxRecDepth 20000 in
theorem ggX1_wearOfDay_X1_wearBy : GoodIn wsX1_wearOfDay wsX1_wearBy := goodIn_r _ [16, 17, 18, 19, 20, 21, 22, 23, 24, 25, 26, 27, 28, 29, 30, 31] (by decide +kernel) (by decide +kernel)
set_option maxRecDepth 20000 in
theorem gX1_wearOfDay_X1_wearBy : GoodIn wsX1_wearOfDay (wsV RX1 55 RX1 yX1_wearBy wsX1_wearBy) := goodIn_app (goodIn_of _ (by decide +kernel)) ggX1_wearOfDay_X1_wearBy
set_option maxRecDepth 20000 in
theorem ggX1_millNumber_X1_hasMill : GoodIn wsX1_millNumber wsX1_hasMill := goodIn_r _ [9, 1, 10, 11, 12, 13, 14, 15, 16, 17, 18, 19] (by decide +kernel) (by decide +kernel)
set_option maxRecDepth 20000 in
theorem gX1_millNumber_X1_hasMill : GoodIn wsX1_millNumber (wsV RX1 42 RX1 yX1_hasMill wsX1_hasMill) := goodIn_app (goodIn_of _ (by decide +kernel)) ggX1_millNumber_X1_hasMill
set_option maxRecDepth 20000 in
theorem ggX2_init_X0_init : GoodIn wsX2_init wsX0_init := goodIn_r _ [11, 12, 2, 3, 13, 14, 15, 16, 17, 18, 19, 20, 21, 22, 23, 24, 25, 26, 27, 28, 29, 30, 31, 32, 33, 34, 35, 36, 39, 40, 41, 42, 43, 44, 45, 46, 47, 48] (by decide +kernel) (by decide +kernel)
set_option maxRecDepth 20000 in
theorem gX2_init_X0_init : GoodIn wsX2_init (wsX0_init) := ggX2_init_X0_init
set_option maxRecDepth 20000 in
theorem ggX2_build_X0_mostHeightOfNext : GoodIn wsX2_build wsX0_mostHeightOfNext := goodIn_r _ [9, 10, 11, 12, 26, 27, 28, 29, 30, 31, 32, 33, 34, 35, 36, 37, 38, 39, 40, 41, 42, 43, 44, 45, 46, 47, 48] (by decide +kernel) (by decide +kernel)
set_option maxRecDepth 20000 in
theorem gX2_build_X0_mostHeightOfNext : GoodIn wsX2_build (wsV RX2 19 RX0 yX0_mostHeightOfNext wsX0_mostHeightOfNext) := goodIn_app (goodIn_of _ (by decide +kernel)) ggX2_build_X0_mostHeightOfNext
set_option maxRecDepth 20000 in
theorem ggX2_build_X2_requireRange : GoodIn wsX2_build wsX2_requireRange := goodIn_ca (goodIn_r _ [16, 17, 18] (by decide +kernel) (by decide +kernel)) (goodIn_sub (fun _ h => List.mem_cons_of_mem _ (List.mem_append_right _ h)) (by decide +kernel))
set_option maxRecDepth 20000 in
theorem gX2_build_X2_requireRange : GoodIn wsX2_build (va_wsS RX2 23 yX2_requireRange wsX2_requireRange) := goodIn_app (goodIn_of _ (by decide +kernel)) ggX2_build_X2_requireRange
set_option maxRecDepth 20000 in
theorem ggX2_build_X0_addArch : GoodIn wsX2_build wsX0_addArch := goodIn_r _ [22, 10, 11, 12, 23, 26, 27, 28, 29, 30, 31, 32, 33, 34, 35, 36, 37, 38, 39, 40, 41, 42, 43, 44, 45, 46, 47, 48] (by decide +kernel) (by decide +kernel)
set_option maxRecDepth 20000 in
theorem gX2_build_X0_addArch : GoodIn wsX2_build (wsV RX2 38 RX0 yX0_addArch wsX0_addArch) := goodIn_app (goodIn_of _ (by decide +kernel)) ggX2_build_X0_addArch
set_option maxRecDepth 20000 in
theorem ggX2_setSpring_X2_setHour : GoodIn wsX2_setSpring wsX2_setHour := goodIn_ca (goodIn_ca (goodIn_r _ [6, 7, 8, 5, 9, 10, 11, 12, 13, 14, 15, 16] (by decide +kernel) (by decide +kernel)) (goodIn_sub (fun _ h => List.mem_cons_of_mem _ (List.mem_append_left _ (List.mem_append_right _ h))) (by decide +kernel))) (goodIn_sub (fun _ h => List.mem_cons_of_mem _ (List.mem_append_right _ h)) (by decide +kernel))
set_option maxRecDepth 20000 in
theorem gX2_setSpring_X2_setHour : GoodIn wsX2_setSpring (va_wsS RX2 46 yX2_setHour wsX2_setHour) := goodIn_app (goodIn_of _ (by decide +kernel)) ggX2_setSpring_X2_setHour
set_option maxRecDepth 20000 in
theorem ggX2_setCity_X2_setHour : GoodIn wsX2_setCity wsX2_setHour := goodIn_ca (goodIn_ca (goodIn_r _ [6, 7, 8, 5, 9, 10, 11, 12, 13, 14, 15, 16] (by decide +kernel) (by decide +kernel)) (goodIn_sub (fun _ h => List.mem_cons_of_mem _ (List.mem_append_left _ (List.mem_append_right _ h))) (by decide +kernel))) (goodIn_sub (fun _ h => List.mem_cons_of_mem _ (List.mem_append_right _ h)) (by decide +kernel))
set_option maxRecDepth 20000 in
theorem gX2_setCity_X2_setHour : GoodIn wsX2_setCity (va_wsS RX2 46 yX2_setHour wsX2_setHour) := goodIn_app (goodIn_of _ (by decide +kernel)) ggX2_setCity_X2_setHour
set_option maxRecDepth 20000 in
theorem ggX2_setCistern_X2_requireRange : GoodIn wsX2_setCistern wsX2_requireRange := goodIn_ca (goodIn_r _ [5, 6, 7] (by decide +kernel) (by decide +kernel)) (goodIn_sub (fun _ h => List.mem_cons_of_mem _ (List.mem_append_right _ h)) (by decide +kernel))
set_option maxRecDepth 20000 in
theorem gX2_setCistern_X2_requireRange : GoodIn wsX2_setCistern (va_wsS RX2 23 yX2_requireRange wsX2_requireRange) := goodIn_app (goodIn_of _ (by decide +kernel)) ggX2_setCistern_X2_requireRange
set_option maxRecDepth 20000 in
theorem ggX2_setCistern_X0_resizeCistern : GoodIn wsX2_setCistern wsX0_resizeCistern := goodIn_r _ [12, 13, 14, 15, 16, 17, 18, 19, 22, 23, 24, 25, 26, 27, 28, 29, 30, 31, 32, 33, 34] (by decide +kernel) (by decide +kernel)
set_option maxRecDepth 20000 in
theorem gX2_setCistern_X0_resizeCistern : GoodIn wsX2_setCistern (wsV RX2 53 RX0 yX0_resizeCistern wsX0_resizeCistern) := goodIn_app (goodIn_of _ (by decide +kernel)) ggX2_setCistern_X0_resizeCistern
set_option maxRecDepth 20000 in
theorem ggX2_arch_X2_requireArch : GoodIn wsX2_arch wsX2_requireArch := goodIn_ca (goodIn_r _ [6, 1, 7, 8, 9, 5, 10, 11, 12, 44, 45, 46, 47, 48, 49, 50, 51, 52, 53, 54, 55, 56, 57, 58] (by decide +kernel) (by decide +kernel)) (goodIn_sub (fun _ h => List.mem_cons_of_mem _ (List.mem_append_right _ h)) (by decide +kernel))
set_option maxRecDepth 20000 in
theorem gX2_arch_X2_requireArch : GoodIn wsX2_arch (wsV RX2 57 RX2 yX2_requireArch wsX2_requireArch) := goodIn_app (goodIn_of _ (by decide +kernel)) ggX2_arch_X2_requireArch
set_option maxRecDepth 20000 in
theorem ggX2_arch_X2_requireIndex : GoodIn wsX2_arch wsX2_requireIndex := goodIn_ca (goodIn_r _ [10, 11, 12] (by decide +kernel) (by decide +kernel)) (goodIn_sub (fun _ h => List.mem_cons_of_mem _ (List.mem_append_right _ h)) (by decide +kernel))
set_option maxRecDepth 20000 in
theorem gX2_arch_X2_requireIndex : GoodIn wsX2_arch (va_wsS RX2 61 yX2_requireIndex wsX2_requireIndex) := goodIn_app (goodIn_of _ (by decide +kernel)) ggX2_arch_X2_requireIndex
set_option maxRecDepth 20000 in
theorem ggX2_arch_X0_archNumber : GoodIn wsX2_arch wsX0_archNumber := goodIn_r _ [17, 18, 19, 20, 21, 22, 23, 24, 25, 26, 27, 16, 28, 29, 30, 31, 32, 33, 34, 35, 36, 37, 38, 39, 40, 41, 42, 43, 46, 47, 48, 49, 50, 51, 52, 53, 54, 55, 56, 57, 58, 59, 60, 61, 62, 63, 64, 65, 66, 67, 68] (by decide +kernel) (by decide +kernel)
set_option maxRecDepth 20000 in
theorem gX2_arch_X0_archNumber : GoodIn wsX2_arch (wsV RX2 65 RX0 yX0_archNumber wsX0_archNumber) := goodIn_app (goodIn_of _ (by decide +kernel)) ggX2_arch_X0_archNumber
set_option maxRecDepth 20000 in
theorem ggX2_addMill_X2_requireArch : GoodIn wsX2_addMill wsX2_requireArch := goodIn_ca (goodIn_r _ [9, 3, 10, 11, 12, 8, 13, 14, 15, 39, 40, 51, 52, 53, 54, 55, 56, 57, 58, 59, 60, 61, 62, 63] (by decide +kernel) (by decide +kernel)) (goodIn_sub (fun _ h => List.mem_cons_of_mem _ (List.mem_append_left _ (List.mem_append_right _ h))) (by decide +kernel))
set_option maxRecDepth 20000 in
theorem gX2_addMill_X2_requireArch : GoodIn wsX2_addMill (wsV RX2 57 RX2 yX2_requireArch wsX2_requireArch) := goodIn_app (goodIn_of _ (by decide +kernel)) ggX2_addMill_X2_requireArch
set_option maxRecDepth 20000 in
theorem ggX2_addMill_X2_requireRange : GoodIn wsX2_addMill wsX2_requireRange := goodIn_ca (goodIn_r _ [18, 19, 20] (by decide +kernel) (by decide +kernel)) (goodIn_sub (fun _ h => List.mem_cons_of_mem _ (List.mem_append_right _ h)) (by decide +kernel))
set_option maxRecDepth 20000 in
theorem gX2_addMill_X2_requireRange : GoodIn wsX2_addMill (va_wsS RX2 23 yX2_requireRange wsX2_requireRange) := goodIn_app (goodIn_of _ (by decide +kernel)) ggX2_addMill_X2_requireRange
set_option maxRecDepth 20000 in
theorem ggX2_addMill_X0_archAt : GoodIn wsX2_addMill wsX0_archAt := goodIn_r _ [25, 26, 51, 52, 53, 54, 55, 56, 57, 58, 59, 60, 61, 62, 63] (by decide +kernel) (by decide +kernel)
set_option maxRecDepth 20000 in
theorem gX2_addMill_X0_archAt : GoodIn wsX2_addMill (wsV RX2 68 RX0 yX0_archAt wsX0_archAt) := goodIn_app (goodIn_of _ (by decide +kernel)) ggX2_addMill_X0_archAt
set_option maxRecDepth 20000 in
theorem ggX2_addMill_X1_hasMill : GoodIn wsX2_addMill wsX1_hasMill := goodIn_r _ [31, 32, 41, 42, 43, 44, 45, 46, 47, 48, 49, 50] (by decide +kernel) (by decide +kernel)
set_option maxRecDepth 20000 in
theorem gX2_addMill_X1_hasMill : GoodIn wsX2_addMill (wsV RX2 72 RX1 yX1_hasMill wsX1_hasMill) := goodIn_app (goodIn_of _ (by decide +kernel)) ggX2_addMill_X1_hasMill
set_option maxRecDepth 20000 in
theorem ggX2_addMill_X0_mills : GoodIn wsX2_addMill wsX0_mills := goodIn_r _ [36, 37, 26, 38, 28, 29, 30, 31, 32, 51, 52, 53, 54, 55, 56, 57, 58, 59, 60, 61, 62, 63, 41, 42, 43, 44, 45, 46, 47, 48, 49, 50] (by decide +kernel) (by decide +kernel)
set_option maxRecDepth 20000 in
theorem gX2_addMill_X0_mills : GoodIn wsX2_addMill (wsV RX2 83 RX0 yX0_mills wsX0_mills) := goodIn_app (goodIn_of _ (by decide +kernel)) ggX2_addMill_X0_mills
set_option maxRecDepth 20000 in
theorem ggX2_setSluice_X2_requireArch : GoodIn wsX2_setSluice wsX2_requireArch := goodIn_ca (goodIn_r _ [9, 3, 10, 11, 12, 8, 13, 14, 15, 33, 34, 45, 46, 47, 48, 49, 50, 51, 52, 53, 54, 55, 56, 57] (by decide +kernel) (by decide +kernel)) (goodIn_sub (fun _ h => List.mem_cons_of_mem _ (List.mem_append_left _ (List.mem_append_right _ h))) (by decide +kernel))
set_option maxRecDepth 20000 in
theorem gX2_setSluice_X2_requireArch : GoodIn wsX2_setSluice (wsV RX2 57 RX2 yX2_requireArch wsX2_requireArch) := goodIn_app (goodIn_of _ (by decide +kernel)) ggX2_setSluice_X2_requireArch
set_option maxRecDepth 20000 in
theorem ggX2_setSluice_X2_requireRange : GoodIn wsX2_setSluice wsX2_requireRange := goodIn_ca (goodIn_r _ [18, 19, 20] (by decide +kernel) (by decide +kernel)) (goodIn_sub (fun _ h => List.mem_cons_of_mem _ (List.mem_append_right _ h)) (by decide +kernel))
set_option maxRecDepth 20000 in
theorem gX2_setSluice_X2_requireRange : GoodIn wsX2_setSluice (va_wsS RX2 23 yX2_requireRange wsX2_requireRange) := goodIn_app (goodIn_of _ (by decide +kernel)) ggX2_setSluice_X2_requireRange
set_option maxRecDepth 20000 in
theorem ggX2_setSluice_X0_archAt : GoodIn wsX2_setSluice wsX0_archAt := goodIn_r _ [25, 26, 45, 46, 47, 48, 49, 50, 51, 52, 53, 54, 55, 56, 57] (by decide +kernel) (by decide +kernel)
set_option maxRecDepth 20000 in
theorem gX2_setSluice_X0_archAt : GoodIn wsX2_setSluice (wsV RX2 68 RX0 yX0_archAt wsX0_archAt) := goodIn_app (goodIn_of _ (by decide +kernel)) ggX2_setSluice_X0_archAt
set_option maxRecDepth 20000 in
theorem ggX2_setSluice_X1_hasMill : GoodIn wsX2_setSluice wsX1_hasMill := goodIn_r _ [31, 32, 35, 36, 37, 38, 39, 40, 41, 42, 43, 44] (by decide +kernel) (by decide +kernel)
set_option maxRecDepth 20000 in
theorem gX2_setSluice_X1_hasMill : GoodIn wsX2_setSluice (wsV RX2 72 RX1 yX1_hasMill wsX1_hasMill) := goodIn_app (goodIn_of _ (by decide +kernel)) ggX2_setSluice_X1_hasMill
set_option maxRecDepth 20000 in
theorem ggX2_mill_X2_requireArch : GoodIn wsX2_mill wsX2_requireArch := goodIn_ca (goodIn_r _ [6, 1, 7, 8, 9, 5, 10, 11, 12, 32, 33, 34, 35, 36, 37, 38, 39, 40, 41, 42, 43, 44, 45, 46] (by decide +kernel) (by decide +kernel)) (goodIn_sub (fun _ h => List.mem_cons_of_mem _ (List.mem_append_right _ h)) (by decide +kernel))
set_option maxRecDepth 20000 in
theorem gX2_mill_X2_requireArch : GoodIn wsX2_mill (wsV RX2 57 RX2 yX2_requireArch wsX2_requireArch) := goodIn_app (goodIn_of _ (by decide +kernel)) ggX2_mill_X2_requireArch
set_option maxRecDepth 20000 in
theorem ggX2_mill_X2_requireIndex : GoodIn wsX2_mill wsX2_requireIndex := goodIn_ca (goodIn_r _ [10, 11, 12] (by decide +kernel) (by decide +kernel)) (goodIn_sub (fun _ h => List.mem_cons_of_mem _ (List.mem_append_right _ h)) (by decide +kernel))
set_option maxRecDepth 20000 in
theorem gX2_mill_X2_requireIndex : GoodIn wsX2_mill (va_wsS RX2 61 yX2_requireIndex wsX2_requireIndex) := goodIn_app (goodIn_of _ (by decide +kernel)) ggX2_mill_X2_requireIndex
set_option maxRecDepth 20000 in
theorem ggX2_mill_X0_archAt : GoodIn wsX2_mill wsX0_archAt := goodIn_r _ [17, 18, 34, 35, 36, 37, 38, 39, 40, 41, 42, 43, 44, 45, 46] (by decide +kernel) (by decide +kernel)
set_option maxRecDepth 20000 in
theorem gX2_mill_X0_archAt : GoodIn wsX2_mill (wsV RX2 68 RX0 yX0_archAt wsX0_archAt) := goodIn_app (goodIn_of _ (by decide +kernel)) ggX2_mill_X0_archAt
set_option maxRecDepth 20000 in
theorem ggX2_mill_X1_millNumber : GoodIn wsX2_mill wsX1_millNumber := goodIn_r _ [23, 24, 25, 26, 27, 28, 29, 30, 22, 31, 47, 48, 49, 50, 51, 52, 53, 54, 55, 56] (by decide +kernel) (by decide +kernel)
set_option maxRecDepth 20000 in
theorem gX2_mill_X1_millNumber : GoodIn wsX2_mill (wsV RX2 91 RX1 yX1_millNumber wsX1_millNumber) := goodIn_app (goodIn_of _ (by decide +kernel)) ggX2_mill_X1_millNumber
set_option maxRecDepth 20000 in
theorem ggX2_mend_X2_requireArch : GoodIn wsX2_mend wsX2_requireArch := goodIn_ca (goodIn_r _ [15, 3, 16, 17, 18, 14, 19, 20, 21, 28, 29, 30, 31, 32, 33, 34, 35, 36, 37, 38, 39, 40, 41, 42] (by decide +kernel) (by decide +kernel)) (goodIn_sub (fun _ h => List.mem_cons_of_mem _ (List.mem_append_right _ h)) (by decide +kernel))
set_option maxRecDepth 20000 in
theorem gX2_mend_X2_requireArch : GoodIn wsX2_mend (wsV RX2 57 RX2 yX2_requireArch wsX2_requireArch) := goodIn_app (goodIn_of _ (by decide +kernel)) ggX2_mend_X2_requireArch
set_option maxRecDepth 20000 in
theorem ggX2_mend_X0_archAt : GoodIn wsX2_mend wsX0_archAt := goodIn_r _ [26, 27, 30, 31, 32, 33, 34, 35, 36, 37, 38, 39, 40, 41, 42] (by decide +kernel) (by decide +kernel)
set_option maxRecDepth 20000 in
theorem gX2_mend_X0_archAt : GoodIn wsX2_mend (wsV RX2 68 RX0 yX0_archAt wsX0_archAt) := goodIn_app (goodIn_of _ (by decide +kernel)) ggX2_mend_X0_archAt
set_option maxRecDepth 20000 in
theorem ggX2_quake_X2_requireArch : GoodIn wsX2_quake wsX2_requireArch := goodIn_ca (goodIn_r _ [7, 1, 8, 9, 10, 6, 11, 12, 13, 35, 36, 47, 48, 49, 50, 51, 52, 53, 54, 55, 56, 57, 58, 59] (by decide +kernel) (by decide +kernel)) (goodIn_sub (fun _ h => List.mem_cons_of_mem _ (List.mem_append_left _ (List.mem_append_right _ h))) (by decide +kernel))
set_option maxRecDepth 20000 in
theorem gX2_quake_X2_requireArch : GoodIn wsX2_quake (wsV RX2 57 RX2 yX2_requireArch wsX2_requireArch) := goodIn_app (goodIn_of _ (by decide +kernel)) ggX2_quake_X2_requireArch
set_option maxRecDepth 20000 in
theorem ggX2_quake_X2_requireRange : GoodIn wsX2_quake wsX2_requireRange := goodIn_ca (goodIn_r _ [16, 17, 18] (by decide +kernel) (by decide +kernel)) (goodIn_sub (fun _ h => List.mem_cons_of_mem _ (List.mem_append_right _ h)) (by decide +kernel))
set_option maxRecDepth 20000 in
theorem gX2_quake_X2_requireRange : GoodIn wsX2_quake (va_wsS RX2 23 yX2_requireRange wsX2_requireRange) := goodIn_app (goodIn_of _ (by decide +kernel)) ggX2_quake_X2_requireRange
set_option maxRecDepth 20000 in
theorem ggX2_quake_X0_archAt : GoodIn wsX2_quake wsX0_archAt := goodIn_r _ [23, 24, 47, 48, 49, 50, 51, 52, 53, 54, 55, 56, 57, 58, 59] (by decide +kernel) (by decide +kernel)
set_option maxRecDepth 20000 in
theorem gX2_quake_X0_archAt : GoodIn wsX2_quake (wsV RX2 68 RX0 yX0_archAt wsX0_archAt) := goodIn_app (goodIn_of _ (by decide +kernel)) ggX2_quake_X0_archAt
set_option maxRecDepth 20000 in
theorem ggX2_quake_X1_wearBy : GoodIn wsX2_quake wsX1_wearBy := goodIn_r _ [29, 30, 31, 32, 33, 34, 37, 38, 39, 40, 41, 42, 43, 44, 45, 46] (by decide +kernel) (by decide +kernel)
set_option maxRecDepth 20000 in
theorem gX2_quake_X1_wearBy : GoodIn wsX2_quake (wsV RX2 112 RX1 yX1_wearBy wsX1_wearBy) := goodIn_app (goodIn_of _ (by decide +kernel)) ggX2_quake_X1_wearBy
set_option maxRecDepth 20000 in
theorem ggX2_pass_X2_requireRange : GoodIn wsX2_pass wsX2_requireRange := goodIn_ca (goodIn_r _ [6, 7, 8] (by decide +kernel) (by decide +kernel)) (goodIn_sub (fun _ h => List.mem_cons_of_mem _ (List.mem_append_right _ h)) (by decide +kernel))
set_option maxRecDepth 20000 in
theorem gX2_pass_X2_requireRange : GoodIn wsX2_pass (va_wsS RX2 23 yX2_requireRange wsX2_requireRange) := goodIn_app (goodIn_of _ (by decide +kernel)) ggX2_pass_X2_requireRange
set_option maxRecDepth 20000 in
theorem ggX2_pass_X0_goOn : GoodIn wsX2_pass wsX0_goOn := goodIn_r _ [13, 14, 15, 16, 12, 17, 18, 19, 20, 21, 22, 23, 24, 25, 26, 27, 28, 29, 30, 31, 32, 33, 34, 35, 36, 37, 38, 39, 40, 41, 42, 43, 44, 45, 46, 47, 48, 49, 50, 51, 52, 53, 54, 55, 56, 57, 58, 59, 60, 61, 62, 63, 64, 65, 66, 67, 68, 69, 70, 71, 72, 73, 74, 75, 76, 77, 78, 79, 80, 81, 82, 83, 84, 85, 86, 87, 88, 89, 90, 91, 92, 93, 94, 95, 96, 97, 98, 99, 100, 101, 102, 103, 104, 105, 106, 107, 108, 109, 110, 111, 112, 113, 114, 115, 116, 119, 120, 121, 122, 123, 124, 125, 126, 127, 128, 129, 130, 131, 132, 133, 134, 135, 136, 137, 138, 139, 140, 141] (by decide +kernel) (by decide +kernel)
set_option maxRecDepth 20000 in
theorem gX2_pass_X0_goOn : GoodIn wsX2_pass (wsV RX2 118 RX0 yX0_goOn wsX0_goOn) := goodIn_app (goodIn_of _ (by decide +kernel)) ggX2_pass_X0_goOn
set_option maxRecDepth 20000 in
theorem ggX2_count_X2_requireIndex : GoodIn wsX2_count wsX2_requireIndex := goodIn_ca (goodIn_r _ [5, 6, 7] (by decide +kernel) (by decide +kernel)) (goodIn_sub (fun _ h => List.mem_cons_of_mem _ (List.mem_append_right _ h)) (by decide +kernel))
set_option maxRecDepth 20000 in
theorem gX2_count_X2_requireIndex : GoodIn wsX2_count (va_wsS RX2 61 yX2_requireIndex wsX2_requireIndex) := goodIn_app (goodIn_of _ (by decide +kernel)) ggX2_count_X2_requireIndex
set_option maxRecDepth 20000 in
theorem ggX2_count_X0_countNumber : GoodIn wsX2_count wsX0_countNumber := goodIn_r _ [12, 13, 14, 15, 16, 17, 18, 19, 20, 21, 22, 23, 24, 11, 25, 26, 27, 28, 29, 30, 31, 32, 33, 34, 35, 36, 37, 38, 39, 40, 41, 42, 45, 46, 47, 48, 49, 50, 51, 52, 53, 54, 55, 56, 57, 58, 59, 60, 61, 62, 63, 64, 65, 66, 67] (by decide +kernel) (by decide +kernel)
set_option maxRecDepth 20000 in
theorem gX2_count_X0_countNumber : GoodIn wsX2_count (wsV RX2 121 RX0 yX0_countNumber wsX0_countNumber) := goodIn_app (goodIn_of _ (by decide +kernel)) ggX2_count_X0_countNumber
set_option maxRecDepth 20000 in
theorem ggX2_foresee_X2_requireRange : GoodIn wsX2_foresee wsX2_requireRange := goodIn_ca (goodIn_r _ [8, 9, 10] (by decide +kernel) (by decide +kernel)) (goodIn_sub (fun _ h => List.mem_cons_of_mem _ (List.mem_append_left _ (List.mem_append_right _ h))) (by decide +kernel))
set_option maxRecDepth 20000 in
theorem gX2_foresee_X2_requireRange : GoodIn wsX2_foresee (va_wsS RX2 23 yX2_requireRange wsX2_requireRange) := goodIn_app (goodIn_of _ (by decide +kernel)) ggX2_foresee_X2_requireRange
set_option maxRecDepth 20000 in
theorem ggX2_foresee_X2_requireIndex : GoodIn wsX2_foresee wsX2_requireIndex := goodIn_ca (goodIn_r _ [13, 14, 15] (by decide +kernel) (by decide +kernel)) (goodIn_sub (fun _ h => List.mem_cons_of_mem _ (List.mem_append_right _ h)) (by decide +kernel))
set_option maxRecDepth 20000 in
theorem gX2_foresee_X2_requireIndex : GoodIn wsX2_foresee (va_wsS RX2 61 yX2_requireIndex wsX2_requireIndex) := goodIn_app (goodIn_of _ (by decide +kernel)) ggX2_foresee_X2_requireIndex
set_option maxRecDepth 20000 in
theorem ggX2_foresee_X0_copyFrom : GoodIn wsX2_foresee wsX0_copyFrom := goodIn_r _ [20, 21, 22, 23, 24, 25, 26, 27, 28, 29, 30, 31, 32, 33, 34, 35, 36, 37, 38, 39, 40, 41, 42, 43, 44, 45, 46, 47, 48, 49, 50, 51, 52, 149, 150, 151, 152, 153, 154, 155, 156, 157, 158, 159, 160, 161, 162, 163, 164, 165, 166, 167, 168, 169, 170, 171] (by decide +kernel) (by decide +kernel)
set_option maxRecDepth 20000 in
theorem gX2_foresee_X0_copyFrom : GoodIn wsX2_foresee (wsV RX2 124 RX0 yX0_copyFrom wsX0_copyFrom) := goodIn_app (goodIn_of _ (by decide +kernel)) ggX2_foresee_X0_copyFrom
set_option maxRecDepth 20000 in
theorem ggX2_foresee_X0_goOn : GoodIn wsX2_foresee wsX0_goOn := goodIn_r _ [56, 57, 58, 59, 19, 60, 29, 26, 27, 21, 28, 61, 62, 63, 64, 65, 66, 67, 68, 32, 69, 70, 71, 72, 36, 37, 73, 74, 75, 76, 77, 78, 79, 80, 81, 82, 83, 84, 85, 86, 87, 88, 89, 41, 90, 50, 49, 91, 52, 45, 92, 93, 94, 95, 31, 96, 97, 98, 99, 44, 100, 101, 102, 103, 104, 30, 34, 35, 105, 106, 107, 108, 51, 109, 110, 111, 112, 33, 113, 114, 115, 116, 47, 46, 48, 117, 118, 119, 120, 121, 122, 123, 124, 125, 126, 127, 128, 129, 130, 131, 132, 133, 134, 135, 136, 149, 150, 151, 152, 153, 154, 155, 156, 157, 158, 159, 160, 161, 162, 163, 164, 165, 166, 167, 168, 169, 170, 171] (by decide +kernel) (by decide +kernel)
set_option maxRecDepth 20000 in
theorem gX2_foresee_X0_goOn : GoodIn wsX2_foresee (wsV RX2 118 RX0 yX0_goOn wsX0_goOn) := goodIn_app (goodIn_of _ (by decide +kernel)) ggX2_foresee_X0_goOn
set_option maxRecDepth 20000 in
theorem ggX2_foresee_X0_leaked : GoodIn wsX2_foresee wsX0_leaked := goodIn_r _ [140, 27, 28, 141, 149, 150, 151, 152, 153, 154, 155, 156, 157, 158, 159, 160, 161, 162, 163, 164, 165, 166, 167, 168, 169, 170, 171] (by decide +kernel) (by decide +kernel)
set_option maxRecDepth 20000 in
theorem gX2_foresee_X0_leaked : GoodIn wsX2_foresee (wsV RX2 128 RX0 yX0_leaked wsX0_leaked) := goodIn_app (goodIn_of _ (by decide +kernel)) ggX2_foresee_X0_leaked
set_option maxRecDepth 20000 in
theorem ggX2_foresee_X0_flour : GoodIn wsX2_foresee wsX0_flour := goodIn_r _ [145, 27, 28, 146, 149, 150, 151, 152, 153, 154, 155, 156, 157, 158, 159, 160, 161, 162, 163, 164, 165, 166, 167, 168, 169, 170, 171] (by decide +kernel) (by decide +kernel)
set_option maxRecDepth 20000 in
theorem gX2_foresee_X0_flour : GoodIn wsX2_foresee (wsV RX2 134 RX0 yX0_flour wsX0_flour) := goodIn_app (goodIn_of _ (by decide +kernel)) ggX2_foresee_X0_flour
set_option maxRecDepth 20000 in
theorem ggX2_advise_X2_requireRange : GoodIn wsX2_advise wsX2_requireRange := goodIn_ca (goodIn_r _ [6, 7, 8] (by decide +kernel) (by decide +kernel)) (goodIn_sub (fun _ h => List.mem_cons_of_mem _ (List.mem_append_right _ h)) (by decide +kernel))
set_option maxRecDepth 20000 in
theorem gX2_advise_X2_requireRange : GoodIn wsX2_advise (va_wsS RX2 23 yX2_requireRange wsX2_requireRange) := goodIn_app (goodIn_of _ (by decide +kernel)) ggX2_advise_X2_requireRange
set_option maxRecDepth 20000 in
theorem ggX2_advise_X2_thirstWithClosed : GoodIn wsX2_advise wsX2_thirstWithClosed := goodIn_r _ [12, 13, 1, 2, 14, 15, 16, 17, 18, 19, 20, 21, 22, 23, 24, 25, 26, 27, 28, 29, 30, 31, 32, 33, 34, 35, 36, 37, 38, 39, 40, 41, 42, 43, 44, 45, 46, 47, 48, 49, 50, 51, 52, 53, 54, 55, 56, 57, 58, 59, 60, 61, 62, 63, 64, 65, 66, 67, 68, 69, 70, 71, 72, 73, 74, 75, 76, 77, 78, 79, 80, 81, 82, 83, 84, 85, 86, 87, 88, 89, 90, 91, 92, 93, 94, 95, 96, 97, 98, 99, 100, 101, 102, 103, 104, 105, 106, 107, 108, 109, 110, 111, 112, 113, 114, 115, 116, 117, 118, 119, 120, 121, 122, 123, 124, 125, 126, 127, 128, 129, 130, 131, 132, 133, 134, 135, 136, 137, 138, 139, 140, 142, 143, 144, 145, 146, 147, 148, 149, 150, 151, 152, 153, 154, 155, 156, 157, 158, 159, 160, 161, 162, 163, 164, 165, 166] (by decide +kernel) (by decide +kernel)
set_option maxRecDepth 20000 in
theorem gX2_advise_X2_thirstWithClosed : GoodIn wsX2_advise (wsV RX2 137 RX2 yX2_thirstWithClosed wsX2_thirstWithClosed) := goodIn_app (goodIn_of _ (by decide +kernel)) ggX2_advise_X2_thirstWithClosed
set_option maxRecDepth 20000 in
theorem ggX2_advise_X0_archAt : GoodIn wsX2_advise wsX0_archAt := goodIn_r _ [56, 28, 144, 145, 146, 147, 148, 149, 150, 151, 152, 153, 154, 155, 156] (by decide +kernel) (by decide +kernel)
set_option maxRecDepth 20000 in
theorem gX2_advise_X0_archAt : GoodIn wsX2_advise (wsV RX2 68 RX0 yX0_archAt wsX0_archAt) := goodIn_app (goodIn_of _ (by decide +kernel)) ggX2_advise_X0_archAt
set_option maxRecDepth 20000 in
theorem ggX2_advise_X1_hasOpenSluice : GoodIn wsX2_advise wsX1_hasOpenSluice := goodIn_r _ [132, 50, 133, 134, 135, 41, 136, 49, 157, 158, 159, 160, 161, 162, 163, 164, 165, 166] (by decide +kernel) (by decide +kernel)
set_option maxRecDepth 20000 in
theorem gX2_advise_X1_hasOpenSluice : GoodIn wsX2_advise (wsV RX2 140 RX1 yX1_hasOpenSluice wsX1_hasOpenSluice) := goodIn_app (goodIn_of _ (by decide +kernel)) ggX2_advise_X1_hasOpenSluice
set_option maxRecDepth 20000 in
theorem ggX2_thirsty_X0_copyFrom : GoodIn wsX2_thirsty wsX0_copyFrom := goodIn_r _ [8, 9, 10, 11, 12, 13, 14, 15, 16, 17, 18, 19, 20, 21, 22, 23, 24, 25, 26, 27, 28, 29, 30, 31, 32, 33, 34, 35, 36, 37, 38, 39, 40, 127, 128, 129, 130, 131, 132, 133, 134, 135, 136, 137, 138, 139, 140, 141, 142, 143, 144, 145, 146, 147, 148, 149] (by decide +kernel) (by decide +kernel)
set_option maxRecDepth 20000 in
theorem gX2_thirsty_X0_copyFrom : GoodIn wsX2_thirsty (wsV RX2 124 RX0 yX0_copyFrom wsX0_copyFrom) := goodIn_app (goodIn_of _ (by decide +kernel)) ggX2_thirsty_X0_copyFrom
set_option maxRecDepth 20000 in
theorem ggX2_thirsty_X0_goOn : GoodIn wsX2_thirsty wsX0_goOn := goodIn_r _ [44, 45, 46, 47, 7, 48, 17, 14, 15, 9, 16, 49, 50, 51, 52, 53, 54, 55, 56, 20, 57, 58, 59, 60, 24, 25, 61, 62, 63, 64, 65, 66, 67, 68, 69, 70, 71, 72, 73, 74, 75, 76, 77, 29, 78, 38, 37, 79, 40, 33, 80, 81, 82, 83, 19, 84, 85, 86, 87, 32, 88, 89, 90, 91, 92, 18, 22, 23, 93, 94, 95, 96, 39, 97, 98, 99, 100, 21, 101, 102, 103, 104, 35, 34, 36, 105, 106, 107, 108, 109, 110, 111, 112, 113, 114, 115, 116, 117, 118, 119, 120, 121, 122, 123, 124, 127, 128, 129, 130, 131, 132, 133, 134, 135, 136, 137, 138, 139, 140, 141, 142, 143, 144, 145, 146, 147, 148, 149] (by decide +kernel) (by decide +kernel)
set_option maxRecDepth 20000 in
theorem gX2_thirsty_X0_goOn : GoodIn wsX2_thirsty (wsV RX2 118 RX0 yX0_goOn wsX0_goOn) := goodIn_app (goodIn_of _ (by decide +kernel)) ggX2_thirsty_X0_goOn
set_option maxRecDepth 20000 in
theorem ggX2_worst_X0_archAt : GoodIn wsX2_worst wsX0_archAt := goodIn_r _ [8, 9, 12, 13, 14, 15, 16, 17, 18, 19, 20, 21, 22, 23, 24] (by decide +kernel) (by decide +kernel)
set_option maxRecDepth 20000 in
theorem gX2_worst_X0_archAt : GoodIn wsX2_worst (wsV RX2 68 RX0 yX0_archAt wsX0_archAt) := goodIn_app (goodIn_of _ (by decide +kernel)) ggX2_worst_X0_archAt
set_option maxRecDepth 20000 in
theorem ggX2_digest_X0_countNumber : GoodIn wsX2_digest wsX0_countNumber := goodIn_r _ [11, 12, 13, 14, 15, 16, 17, 18, 19, 20, 21, 22, 23, 10, 24, 25, 26, 27, 28, 29, 30, 31, 32, 33, 34, 35, 36, 37, 38, 39, 40, 41, 81, 82, 83, 84, 85, 86, 87, 88, 89, 90, 91, 92, 93, 94, 95, 96, 97, 98, 99, 100, 101, 102, 103] (by decide +kernel) (by decide +kernel)
set_option maxRecDepth 20000 in
theorem gX2_digest_X0_countNumber : GoodIn wsX2_digest (wsV RX2 121 RX0 yX0_countNumber wsX0_countNumber) := goodIn_app (goodIn_of _ (by decide +kernel)) ggX2_digest_X0_countNumber
set_option maxRecDepth 20000 in
theorem ggX2_digest_X2_digestArch : GoodIn wsX2_digest wsX2_digestArch := goodIn_r _ [46, 2, 3, 47, 48, 49, 10, 50, 25, 51, 52, 36, 53, 54, 41, 55, 56, 57, 58, 13, 59, 60, 61, 62, 63, 64, 65, 66, 26, 27, 28, 29, 30, 31, 67, 68, 69, 70, 71, 72, 73, 74, 75, 76, 77, 78, 79, 80, 81, 82, 83, 84, 85, 86, 87, 88, 89, 90, 91, 92, 93, 94, 95, 96, 97, 98, 99, 100, 101, 102, 103] (by decide +kernel) (by decide +kernel)
set_option maxRecDepth 20000 in
theorem gX2_digest_X2_digestArch : GoodIn wsX2_digest (wsV RX2 155 RX2 yX2_digestArch wsX2_digestArch) := goodIn_app (goodIn_of _ (by decide +kernel)) ggX2_digest_X2_digestArch
set_option maxRecDepth 20000 in
theorem ggX2_digestArch_X0_archNumber : GoodIn wsX2_digestArch wsX0_archNumber := goodIn_r _ [7, 8, 9, 10, 11, 12, 13, 14, 15, 16, 17, 6, 18, 19, 20, 21, 22, 23, 24, 25, 26, 27, 28, 29, 30, 31, 32, 33, 48, 49, 50, 51, 52, 53, 54, 55, 56, 57, 58, 59, 60, 61, 62, 63, 64, 65, 66, 67, 68, 69, 70] (by decide +kernel) (by decide +kernel)
set_option maxRecDepth 20000 in
theorem gX2_digestArch_X0_archNumber : GoodIn wsX2_digestArch (wsV RX2 65 RX0 yX0_archNumber wsX0_archNumber) := goodIn_app (goodIn_of _ (by decide +kernel)) ggX2_digestArch_X0_archNumber
set_option maxRecDepth 20000 in
theorem ggX2_digestArch_X0_archAt : GoodIn wsX2_digestArch wsX0_archAt := goodIn_r _ [37, 8, 48, 49, 50, 51, 52, 53, 54, 55, 56, 57, 58, 59, 60] (by decide +kernel) (by decide +kernel)
set_option maxRecDepth 20000 in
theorem gX2_digestArch_X0_archAt : GoodIn wsX2_digestArch (wsV RX2 68 RX0 yX0_archAt wsX0_archAt) := goodIn_app (goodIn_of _ (by decide +kernel)) ggX2_digestArch_X0_archAt
set_option maxRecDepth 20000 in
theorem ggX2_digestArch_X1_millNumber : GoodIn wsX2_digestArch wsX1_millNumber := goodIn_r _ [41, 33, 42, 43, 44, 45, 29, 30, 31, 32, 61, 62, 63, 64, 65, 66, 67, 68, 69, 70] (by decide +kernel) (by decide +kernel)
set_option maxRecDepth 20000 in
theorem gX2_digestArch_X1_millNumber : GoodIn wsX2_digestArch (wsV RX2 91 RX1 yX1_millNumber wsX1_millNumber) := goodIn_app (goodIn_of _ (by decide +kernel)) ggX2_digestArch_X1_millNumber
set_option maxRecDepth 20000 in
theorem ggX2_thirstWithClosed_X0_copyFrom : GoodIn wsX2_thirstWithClosed wsX0_copyFrom := goodIn_r _ [10, 11, 12, 13, 14, 15, 16, 17, 18, 19, 20, 21, 22, 23, 24, 25, 26, 27, 28, 29, 30, 31, 32, 33, 34, 35, 36, 37, 38, 39, 40, 41, 42, 133, 134, 135, 136, 137, 138, 139, 140, 141, 142, 143, 144, 145, 146, 147, 148, 149, 150, 151, 152, 153, 154, 155] (by decide +kernel) (by decide +kernel)
set_option maxRecDepth 20000 in
theorem gX2_thirstWithClosed_X0_copyFrom : GoodIn wsX2_thirstWithClosed (wsV RX2 124 RX0 yX0_copyFrom wsX0_copyFrom) := goodIn_app (goodIn_of _ (by decide +kernel)) ggX2_thirstWithClosed_X0_copyFrom
set_option maxRecDepth 20000 in
theorem ggX2_thirstWithClosed_X0_archAt : GoodIn wsX2_thirstWithClosed wsX0_archAt := goodIn_r _ [46, 18, 133, 134, 135, 136, 137, 138, 139, 140, 141, 142, 143, 144, 145] (by decide +kernel) (by decide +kernel)
set_option maxRecDepth 20000 in
theorem gX2_thirstWithClosed_X0_archAt : GoodIn wsX2_thirstWithClosed (wsV RX2 68 RX0 yX0_archAt wsX0_archAt) := goodIn_app (goodIn_of _ (by decide +kernel)) ggX2_thirstWithClosed_X0_archAt
set_option maxRecDepth 20000 in
theorem ggX2_thirstWithClosed_X0_goOn : GoodIn wsX2_thirstWithClosed wsX0_goOn := goodIn_r _ [50, 51, 52, 53, 9, 54, 19, 16, 17, 11, 18, 55, 56, 57, 58, 59, 60, 61, 62, 22, 63, 64, 65, 66, 26, 27, 67, 68, 69, 70, 71, 72, 73, 74, 75, 76, 77, 78, 79, 80, 81, 82, 83, 31, 84, 40, 39, 85, 42, 35, 86, 87, 88, 89, 21, 90, 91, 92, 93, 34, 94, 95, 96, 97, 98, 20, 24, 25, 99, 100, 101, 102, 41, 103, 104, 105, 106, 23, 107, 108, 109, 110, 37, 36, 38, 111, 112, 113, 114, 115, 116, 117, 118, 119, 120, 121, 122, 123, 124, 125, 126, 127, 128, 129, 130, 133, 134, 135, 136, 137, 138, 139, 140, 141, 142, 143, 144, 145, 146, 147, 148, 149, 150, 151, 152, 153, 154, 155] (by decide +kernel) (by decide +kernel)
set_option maxRecDepth 20000 in
theorem gX2_thirstWithClosed_X0_goOn : GoodIn wsX2_thirstWithClosed (wsV RX2 118 RX0 yX0_goOn wsX0_goOn) := goodIn_app (goodIn_of _ (by decide +kernel)) ggX2_thirstWithClosed_X0_goOn
set_option maxRecDepth 20000 in
theorem ggX2_setHour_X2_requireIndex : GoodIn wsX2_setHour wsX2_requireIndex := goodIn_ca (goodIn_r _ [4, 5, 6] (by decide +kernel) (by decide +kernel)) (goodIn_sub (fun _ h => List.mem_cons_of_mem _ (List.mem_append_left _ (List.mem_append_right _ h))) (by decide +kernel))
set_option maxRecDepth 20000 in
theorem gX2_setHour_X2_requireIndex : GoodIn wsX2_setHour (va_wsS RX2 61 yX2_requireIndex wsX2_requireIndex) := goodIn_app (goodIn_of _ (by decide +kernel)) ggX2_setHour_X2_requireIndex
set_option maxRecDepth 20000 in
theorem ggX2_setHour_X2_requireRange : GoodIn wsX2_setHour wsX2_requireRange := goodIn_ca (goodIn_r _ [9, 10, 11] (by decide +kernel) (by decide +kernel)) (goodIn_sub (fun _ h => List.mem_cons_of_mem _ (List.mem_append_right _ h)) (by decide +kernel))
set_option maxRecDepth 20000 in
theorem gX2_setHour_X2_requireRange : GoodIn wsX2_setHour (va_wsS RX2 23 yX2_requireRange wsX2_requireRange) := goodIn_app (goodIn_of _ (by decide +kernel)) ggX2_setHour_X2_requireRange
set_option maxRecDepth 20000 in
theorem ggX2_requireArch_X2_requireIndex : GoodIn wsX2_requireArch wsX2_requireIndex := goodIn_ca (goodIn_r _ [6, 7, 8] (by decide +kernel) (by decide +kernel)) (goodIn_sub (fun _ h => List.mem_cons_of_mem _ (List.mem_append_right _ h)) (by decide +kernel))
set_option maxRecDepth 20000 in
theorem gX2_requireArch_X2_requireIndex : GoodIn wsX2_requireArch (va_wsS RX2 61 yX2_requireIndex wsX2_requireIndex) := goodIn_app (goodIn_of _ (by decide +kernel)) ggX2_requireArch_X2_requireIndex
set_option maxRecDepth 20000 in
theorem ggX3_become_X3_copy : GoodIn wsX3_become wsX3_copy := goodIn_r _ [21, 22, 23, 24, 25] (by decide +kernel) (by decide +kernel)
set_option maxRecDepth 20000 in
theorem gX3_become_X3_copy : GoodIn wsX3_become (wsV RX3 56 RX3 yX3_copy wsX3_copy) := goodIn_app (goodIn_of _ (by decide +kernel)) ggX3_become_X3_copy
set_option maxRecDepth 20000 in
theorem ggX3_pass_X4_rate : GoodIn wsX3_pass wsX4_rate := goodIn_r _ [21, 22, 6, 7, 8, 23, 24, 25, 19, 26, 27, 28, 59, 60, 61, 62, 63, 64, 65, 66, 67] (by decide +kernel) (by decide +kernel)
set_option maxRecDepth 20000 in
theorem gX3_pass_X4_rate_n90 : GoodIn wsX3_pass (wsX4_rate) := ggX3_pass_X4_rate
set_option maxRecDepth 20000 in
theorem ggX3_pass_X3_come : GoodIn wsX3_pass wsX3_come := goodIn_r _ [33, 3, 10, 34, 4, 5, 6, 7, 8, 42, 43, 44, 45, 46, 47, 48, 49, 50, 51, 52, 53, 54, 55, 56, 57, 58, 59, 60, 61, 62, 63, 64, 65, 66, 67] (by decide +kernel) (by decide +kernel)
set_option maxRecDepth 20000 in
theorem gX3_pass_X3_come : GoodIn wsX3_pass (wsV RX3 97 RX3 yX3_come wsX3_come) := goodIn_app (goodIn_of _ (by decide +kernel)) ggX3_pass_X3_come
set_option maxRecDepth 20000 in
theorem ggX3_pass_X3_grind : GoodIn wsX3_pass wsX3_grind := goodIn_r _ [38, 11, 39, 40, 41, 14, 3, 5, 6, 7, 8, 29, 30, 31, 32, 33, 10, 34, 4, 42, 43, 44, 45, 46, 47, 48, 49, 50, 51, 52, 53, 54, 55, 56, 57, 58, 59, 60, 61, 62, 63, 64, 65, 66, 67] (by decide +kernel) (by decide +kernel)
set_option maxRecDepth 20000 in
theorem gX3_pass_X3_grind : GoodIn wsX3_pass (wsV RX3 100 RX3 yX3_grind wsX3_grind) := goodIn_app (goodIn_of _ (by decide +kernel)) ggX3_pass_X3_grind
set_option maxRecDepth 20000 in
theorem ggX3_grind_X3_come : GoodIn wsX3_grind wsX3_come := goodIn_r _ [15, 6, 16, 17, 18, 7, 8, 9, 10, 19, 20, 21, 22, 23, 24, 25, 26, 27, 28, 29, 30, 31, 32, 33, 34, 35, 36, 37, 38, 39, 40, 41, 42, 43, 44] (by decide +kernel) (by decide +kernel)
set_option maxRecDepth 20000 in
theorem gX3_grind_X3_come : GoodIn wsX3_grind (wsV RX3 97 RX3 yX3_come wsX3_come) := goodIn_app (goodIn_of _ (by decide +kernel)) ggX3_grind_X3_come
set_option maxRecDepth 20000 in
theorem ggX4_init_X3_init : GoodIn wsX4_init wsX3_init := goodIn_r _ [16, 17, 18, 2, 3, 19, 4, 20, 21, 22, 23, 24, 25, 26, 36, 37, 38, 39, 40, 41, 42, 43, 44, 45, 46, 47, 48, 49, 50, 51, 52] (by decide +kernel) (by decide +kernel)
set_option maxRecDepth 20000 in
theorem gX4_init_X3_init_n27 : GoodIn wsX4_init (wsX3_init) := ggX4_init_X3_init
set_option maxRecDepth 20000 in
theorem ggX4_isArch_X4_isIn : GoodIn wsX4_isArch wsX4_isIn := goodIn_r _ [5] (by decide +kernel) (by decide +kernel)
set_option maxRecDepth 20000 in
theorem gX4_isArch_X4_isIn : GoodIn wsX4_isArch (va_wsS RX4 44 yX4_isIn wsX4_isIn) := goodIn_app (goodIn_of _ (by decide +kernel)) ggX4_isArch_X4_isIn
set_option maxRecDepth 20000 in
theorem ggX4_rate_X4_slope : GoodIn wsX4_rate wsX4_slope := goodIn_r _ [9, 10, 11, 12, 13, 14, 15, 16, 17, 18, 19, 20] (by decide +kernel) (by decide +kernel)
set_option maxRecDepth 20000 in
theorem gX4_rate_X4_slope : GoodIn wsX4_rate (wsV RX4 48 RX4 yX4_slope wsX4_slope) := goodIn_app (goodIn_of _ (by decide +kernel)) ggX4_rate_X4_slope
set_option maxRecDepth 20000 in
theorem ggX4_build_X4_isIn : GoodIn wsX4_build wsX4_isIn := goodIn_r _ [8] (by decide +kernel) (by decide +kernel)
set_option maxRecDepth 20000 in
theorem gX4_build_X4_isIn : GoodIn wsX4_build (va_wsS RX4 44 yX4_isIn wsX4_isIn) := goodIn_app (goodIn_of _ (by decide +kernel)) ggX4_build_X4_isIn
set_option maxRecDepth 20000 in
theorem ggX4_build_X4_no : GoodIn wsX4_build wsX4_no := goodIn_r _ [12, 1, 13, 14, 15, 16, 17, 18, 19, 20, 21] (by decide +kernel) (by decide +kernel)
set_option maxRecDepth 20000 in
theorem gX4_build_X4_no : GoodIn wsX4_build (wsV RX4 58 RX4 yX4_no wsX4_no) := goodIn_app (goodIn_of _ (by decide +kernel)) ggX4_build_X4_no
set_option maxRecDepth 20000 in
theorem ggX4_set_X4_isIn : GoodIn wsX4_set wsX4_isIn := goodIn_r _ [5] (by decide +kernel) (by decide +kernel)
set_option maxRecDepth 20000 in
theorem gX4_set_X4_isIn : GoodIn wsX4_set (va_wsS RX4 44 yX4_isIn wsX4_isIn) := goodIn_app (goodIn_of _ (by decide +kernel)) ggX4_set_X4_isIn
set_option maxRecDepth 20000 in
theorem ggX4_set_X4_no : GoodIn wsX4_set wsX4_no := goodIn_r _ [9, 1, 10, 11, 12, 13, 14, 15, 16, 17, 18] (by decide +kernel) (by decide +kernel)
set_option maxRecDepth 20000 in
theorem gX4_set_X4_no : GoodIn wsX4_set (wsV RX4 58 RX4 yX4_no wsX4_no) := goodIn_app (goodIn_of _ (by decide +kernel)) ggX4_set_X4_no
set_option maxRecDepth 20000 in
theorem ggX4_setSpring_X4_set : GoodIn wsX4_setSpring wsX4_set := goodIn_r _ [6, 7, 8, 9, 5, 10, 11, 12, 13, 14, 15, 16, 17, 18, 19, 20, 21, 22, 23] (by decide +kernel) (by decide +kernel)
set_option maxRecDepth 20000 in
theorem gX4_setSpring_X4_set : GoodIn wsX4_setSpring (wsV RX4 61 RX4 yX4_set wsX4_set) := goodIn_app (goodIn_of _ (by decide +kernel)) ggX4_setSpring_X4_set
set_option maxRecDepth 20000 in
theorem ggX4_setCity_X4_set : GoodIn wsX4_setCity wsX4_set := goodIn_r _ [6, 7, 8, 9, 5, 10, 11, 12, 13, 14, 15, 16, 17, 18, 19, 20, 21, 22, 23] (by decide +kernel) (by decide +kernel)
set_option maxRecDepth 20000 in
theorem gX4_setCity_X4_set : GoodIn wsX4_setCity (wsV RX4 61 RX4 yX4_set wsX4_set) := goodIn_app (goodIn_of _ (by decide +kernel)) ggX4_setCity_X4_set
set_option maxRecDepth 20000 in
theorem ggX4_setCistern_X4_isIn : GoodIn wsX4_setCistern wsX4_isIn := goodIn_r _ [10] (by decide +kernel) (by decide +kernel)
set_option maxRecDepth 20000 in
theorem gX4_setCistern_X4_isIn : GoodIn wsX4_setCistern (va_wsS RX4 44 yX4_isIn wsX4_isIn) := goodIn_app (goodIn_of _ (by decide +kernel)) ggX4_setCistern_X4_isIn
set_option maxRecDepth 20000 in
theorem ggX4_setCistern_X4_no : GoodIn wsX4_setCistern wsX4_no := goodIn_r _ [14, 1, 15, 16, 17, 18, 19, 20, 21, 22, 23] (by decide +kernel) (by decide +kernel)
set_option maxRecDepth 20000 in
theorem gX4_setCistern_X4_no : GoodIn wsX4_setCistern (wsV RX4 58 RX4 yX4_no wsX4_no) := goodIn_app (goodIn_of _ (by decide +kernel)) ggX4_setCistern_X4_no
set_option maxRecDepth 20000 in
theorem ggX4_archTold_X4_slope : GoodIn wsX4_archTold wsX4_slope := goodIn_r _ [10, 2, 11, 20, 21, 22, 23, 24, 25, 26, 27, 28] (by decide +kernel) (by decide +kernel)
set_option maxRecDepth 20000 in
theorem gX4_archTold_X4_slope : GoodIn wsX4_archTold (wsV RX4 48 RX4 yX4_slope wsX4_slope) := goodIn_app (goodIn_of _ (by decide +kernel)) ggX4_archTold_X4_slope
set_option maxRecDepth 20000 in
theorem ggX4_archTold_X4_rate : GoodIn wsX4_archTold wsX4_rate := goodIn_r _ [15, 16, 17, 18, 19, 6, 7, 8, 9, 10, 2, 11, 20, 21, 22, 23, 24, 25, 26, 27, 28] (by decide +kernel) (by decide +kernel)
set_option maxRecDepth 20000 in
theorem gX4_archTold_X4_rate : GoodIn wsX4_archTold (wsV RX4 86 RX4 yX4_rate wsX4_rate) := goodIn_app (goodIn_of _ (by decide +kernel)) ggX4_archTold_X4_rate
set_option maxRecDepth 20000 in
theorem ggX4_arch_X4_isArch : GoodIn wsX4_arch wsX4_isArch := goodIn_r _ [6, 7, 8, 9, 5, 10, 36, 37, 38, 39, 40, 41, 42, 43, 44] (by decide +kernel) (by decide +kernel)
set_option maxRecDepth 20000 in
theorem gX4_arch_X4_isArch : GoodIn wsX4_arch (wsV RX4 92 RX4 yX4_isArch wsX4_isArch) := goodIn_app (goodIn_of _ (by decide +kernel)) ggX4_arch_X4_isArch
set_option maxRecDepth 20000 in
theorem ggX4_arch_X4_isIn : GoodIn wsX4_arch wsX4_isIn := goodIn_r _ [10] (by decide +kernel) (by decide +kernel)
set_option maxRecDepth 20000 in
theorem gX4_arch_X4_isIn : GoodIn wsX4_arch (va_wsS RX4 44 yX4_isIn wsX4_isIn) := goodIn_app (goodIn_of _ (by decide +kernel)) ggX4_arch_X4_isIn
set_option maxRecDepth 20000 in
theorem ggX4_arch_X4_archTold : GoodIn wsX4_arch wsX4_archTold := goodIn_r _ [14, 15, 16, 17, 18, 19, 20, 21, 22, 5, 23, 7, 24, 25, 26, 27, 28, 29, 30, 31, 36, 37, 38, 39, 40, 41, 42, 43, 44, 45, 46, 47, 48, 49, 50, 51, 52, 53, 54, 55, 56, 57, 58, 59, 60, 61] (by decide +kernel) (by decide +kernel)
set_option maxRecDepth 20000 in
theorem gX4_arch_X4_archTold : GoodIn wsX4_arch (wsV RX4 96 RX4 yX4_archTold wsX4_archTold) := goodIn_app (goodIn_of _ (by decide +kernel)) ggX4_arch_X4_archTold
set_option maxRecDepth 20000 in
theorem ggX4_arch_X4_no : GoodIn wsX4_arch wsX4_no := goodIn_r _ [35, 1, 36, 37, 38, 39, 40, 41, 42, 43, 44] (by decide +kernel) (by decide +kernel)
set_option maxRecDepth 20000 in
theorem gX4_arch_X4_no : GoodIn wsX4_arch (wsV RX4 58 RX4 yX4_no wsX4_no) := goodIn_app (goodIn_of _ (by decide +kernel)) ggX4_arch_X4_no
set_option maxRecDepth 20000 in
theorem ggX4_addMill_X4_isArch : GoodIn wsX4_addMill wsX4_isArch := goodIn_r _ [7, 8, 9, 10, 6, 11, 20, 21, 22, 23, 24, 25, 26, 27, 28] (by decide +kernel) (by decide +kernel)
set_option maxRecDepth 20000 in
theorem gX4_addMill_X4_isArch : GoodIn wsX4_addMill (wsV RX4 92 RX4 yX4_isArch wsX4_isArch) := goodIn_app (goodIn_of _ (by decide +kernel)) ggX4_addMill_X4_isArch
set_option maxRecDepth 20000 in
theorem ggX4_addMill_X4_no : GoodIn wsX4_addMill wsX4_no := goodIn_r _ [15, 1, 20, 21, 22, 23, 24, 25, 26, 27, 28] (by decide +kernel) (by decide +kernel)
set_option maxRecDepth 20000 in
theorem gX4_addMill_X4_no : GoodIn wsX4_addMill (wsV RX4 58 RX4 yX4_no wsX4_no) := goodIn_app (goodIn_of _ (by decide +kernel)) ggX4_addMill_X4_no
set_option maxRecDepth 20000 in
theorem ggX4_addMill_X4_isIn : GoodIn wsX4_addMill wsX4_isIn := goodIn_r _ [11] (by decide +kernel) (by decide +kernel)
set_option maxRecDepth 20000 in
theorem gX4_addMill_X4_isIn : GoodIn wsX4_addMill (va_wsS RX4 44 yX4_isIn wsX4_isIn) := goodIn_app (goodIn_of _ (by decide +kernel)) ggX4_addMill_X4_isIn
set_option maxRecDepth 20000 in
theorem ggX4_addMill_X4_mills : GoodIn wsX4_addMill wsX4_mills := goodIn_r _ [19, 8, 2, 20, 21, 22, 23, 24, 25, 26, 27, 28] (by decide +kernel) (by decide +kernel)
set_option maxRecDepth 20000 in
theorem gX4_addMill_X4_mills : GoodIn wsX4_addMill (wsV RX4 99 RX4 yX4_mills wsX4_mills) := goodIn_app (goodIn_of _ (by decide +kernel)) ggX4_addMill_X4_mills
set_option maxRecDepth 20000 in
theorem ggX4_setSluice_X4_isArch : GoodIn wsX4_setSluice wsX4_isArch := goodIn_r _ [8, 9, 10, 11, 7, 12, 17, 18, 19, 20, 21, 22, 23, 24, 25] (by decide +kernel) (by decide +kernel)
set_option maxRecDepth 20000 in
theorem gX4_setSluice_X4_isArch : GoodIn wsX4_setSluice (wsV RX4 92 RX4 yX4_isArch wsX4_isArch) := goodIn_app (goodIn_of _ (by decide +kernel)) ggX4_setSluice_X4_isArch
set_option maxRecDepth 20000 in
theorem ggX4_setSluice_X4_no : GoodIn wsX4_setSluice wsX4_no := goodIn_r _ [16, 1, 17, 18, 19, 20, 21, 22, 23, 24, 25] (by decide +kernel) (by decide +kernel)
set_option maxRecDepth 20000 in
theorem gX4_setSluice_X4_no : GoodIn wsX4_setSluice (wsV RX4 58 RX4 yX4_no wsX4_no) := goodIn_app (goodIn_of _ (by decide +kernel)) ggX4_setSluice_X4_no
set_option maxRecDepth 20000 in
theorem ggX4_setSluice_X4_isIn : GoodIn wsX4_setSluice wsX4_isIn := goodIn_r _ [12] (by decide +kernel) (by decide +kernel)
set_option maxRecDepth 20000 in
theorem gX4_setSluice_X4_isIn : GoodIn wsX4_setSluice (va_wsS RX4 44 yX4_isIn wsX4_isIn) := goodIn_app (goodIn_of _ (by decide +kernel)) ggX4_setSluice_X4_isIn
set_option maxRecDepth 20000 in
theorem ggX4_mill_X4_isArch : GoodIn wsX4_mill wsX4_isArch := goodIn_r _ [6, 7, 8, 9, 5, 10, 21, 22, 23, 24, 25, 26, 27, 28, 29] (by decide +kernel) (by decide +kernel)
set_option maxRecDepth 20000 in
theorem gX4_mill_X4_isArch : GoodIn wsX4_mill (wsV RX4 92 RX4 yX4_isArch wsX4_isArch) := goodIn_app (goodIn_of _ (by decide +kernel)) ggX4_mill_X4_isArch
set_option maxRecDepth 20000 in
theorem ggX4_mill_X4_isIn : GoodIn wsX4_mill wsX4_isIn := goodIn_r _ [10] (by decide +kernel) (by decide +kernel)
set_option maxRecDepth 20000 in
theorem gX4_mill_X4_isIn : GoodIn wsX4_mill (va_wsS RX4 44 yX4_isIn wsX4_isIn) := goodIn_app (goodIn_of _ (by decide +kernel)) ggX4_mill_X4_isIn
set_option maxRecDepth 20000 in
theorem ggX4_mill_X4_millTold : GoodIn wsX4_mill wsX4_millTold := goodIn_r _ [14, 15, 16, 21, 22, 23, 24, 25, 26, 27, 28, 29, 30, 31, 32, 33, 34, 35, 36, 37, 38, 39, 40, 41, 42, 43, 44, 45, 46] (by decide +kernel) (by decide +kernel)
set_option maxRecDepth 20000 in
theorem gX4_mill_X4_millTold : GoodIn wsX4_mill (wsV RX4 112 RX4 yX4_millTold wsX4_millTold) := goodIn_app (goodIn_of _ (by decide +kernel)) ggX4_mill_X4_millTold
set_option maxRecDepth 20000 in
theorem ggX4_mill_X4_no : GoodIn wsX4_mill wsX4_no := goodIn_r _ [20, 1, 21, 22, 23, 24, 25, 26, 27, 28, 29] (by decide +kernel) (by decide +kernel)
set_option maxRecDepth 20000 in
theorem gX4_mill_X4_no : GoodIn wsX4_mill (wsV RX4 58 RX4 yX4_no wsX4_no) := goodIn_app (goodIn_of _ (by decide +kernel)) ggX4_mill_X4_no
set_option maxRecDepth 20000 in
theorem ggX4_mend_X4_isArch : GoodIn wsX4_mend wsX4_isArch := goodIn_r _ [11, 12, 13, 14, 10, 15, 20, 21, 22, 23, 24, 25, 26, 27, 28] (by decide +kernel) (by decide +kernel)
set_option maxRecDepth 20000 in
theorem gX4_mend_X4_isArch : GoodIn wsX4_mend (wsV RX4 92 RX4 yX4_isArch wsX4_isArch) := goodIn_app (goodIn_of _ (by decide +kernel)) ggX4_mend_X4_isArch
set_option maxRecDepth 20000 in
theorem ggX4_mend_X4_no : GoodIn wsX4_mend wsX4_no := goodIn_r _ [19, 1, 20, 21, 22, 23, 24, 25, 26, 27, 28] (by decide +kernel) (by decide +kernel)
set_option maxRecDepth 20000 in
theorem gX4_mend_X4_no : GoodIn wsX4_mend (wsV RX4 58 RX4 yX4_no wsX4_no) := goodIn_app (goodIn_of _ (by decide +kernel)) ggX4_mend_X4_no
set_option maxRecDepth 20000 in
theorem ggX4_quake_X4_isArch : GoodIn wsX4_quake wsX4_isArch := goodIn_r _ [11, 12, 13, 14, 10, 15, 20, 21, 22, 23, 24, 25, 26, 27, 28] (by decide +kernel) (by decide +kernel)
set_option maxRecDepth 20000 in
theorem gX4_quake_X4_isArch : GoodIn wsX4_quake (wsV RX4 92 RX4 yX4_isArch wsX4_isArch) := goodIn_app (goodIn_of _ (by decide +kernel)) ggX4_quake_X4_isArch
set_option maxRecDepth 20000 in
theorem ggX4_quake_X4_no : GoodIn wsX4_quake wsX4_no := goodIn_r _ [19, 1, 20, 21, 22, 23, 24, 25, 26, 27, 28] (by decide +kernel) (by decide +kernel)
set_option maxRecDepth 20000 in
theorem gX4_quake_X4_no : GoodIn wsX4_quake (wsV RX4 58 RX4 yX4_no wsX4_no) := goodIn_app (goodIn_of _ (by decide +kernel)) ggX4_quake_X4_no
set_option maxRecDepth 20000 in
theorem ggX4_quake_X4_isIn : GoodIn wsX4_quake wsX4_isIn := goodIn_r _ [15] (by decide +kernel) (by decide +kernel)
set_option maxRecDepth 20000 in
theorem gX4_quake_X4_isIn : GoodIn wsX4_quake (va_wsS RX4 44 yX4_isIn wsX4_isIn) := goodIn_app (goodIn_of _ (by decide +kernel)) ggX4_quake_X4_isIn
set_option maxRecDepth 20000 in
theorem ggX4_pass_X3_pass : GoodIn wsX4_pass wsX3_pass := goodIn_r _ [5, 6, 7, 8, 9, 10, 11, 12, 13, 14, 15, 16, 17, 18, 19, 20, 21, 22, 23, 24, 25, 26, 27, 28, 29, 30, 31, 32, 33, 34, 35, 36, 4, 37, 38, 39, 40, 41, 42, 43, 44, 45, 46, 47, 48, 49, 50, 51, 52, 53, 54, 55, 56, 57, 58, 59, 60, 61, 62, 63, 64, 65, 66, 67, 68, 69, 70, 71] (by decide +kernel) (by decide +kernel)
set_option maxRecDepth 20000 in
theorem gX4_pass_X3_pass : GoodIn wsX4_pass (wsV RX4 118 RX3 yX3_pass wsX3_pass) := goodIn_app (goodIn_of _ (by decide +kernel)) ggX4_pass_X3_pass
set_option maxRecDepth 20000 in
theorem ggX4_pass__X4_isIn : GoodIn wsX4_pass_ wsX4_isIn := goodIn_r _ [6] (by decide +kernel) (by decide +kernel)
set_option maxRecDepth 20000 in
theorem gX4_pass__X4_isIn : GoodIn wsX4_pass_ (va_wsS RX4 44 yX4_isIn wsX4_isIn) := goodIn_app (goodIn_of _ (by decide +kernel)) ggX4_pass__X4_isIn
set_option maxRecDepth 20000 in
theorem ggX4_pass__X4_pass : GoodIn wsX4_pass_ wsX4_pass := goodIn_r _ [9, 10, 11, 12, 13, 14, 15, 16, 17, 18, 19, 20, 21, 22, 23, 24, 25, 26, 27, 28, 29, 30, 31, 32, 5, 33, 34, 35, 36, 37, 38, 39, 40, 41, 42, 43, 44, 45, 46, 47, 48, 49, 50, 51, 52, 53, 67, 68, 69, 70, 71, 72, 73, 74, 75, 76, 77, 78, 79, 80, 81, 82, 83, 58, 59, 60, 61, 62, 63, 64, 65, 66] (by decide +kernel) (by decide +kernel)
set_option maxRecDepth 20000 in
theorem gX4_pass__X4_pass : GoodIn wsX4_pass_ (va_wsS RX4 121 yX4_pass wsX4_pass) := goodIn_app (goodIn_of _ (by decide +kernel)) ggX4_pass__X4_pass
set_option maxRecDepth 20000 in
theorem ggX4_pass__X4_no : GoodIn wsX4_pass_ wsX4_no := goodIn_r _ [57, 1, 58, 59, 60, 61, 62, 63, 64, 65, 66] (by decide +kernel) (by decide +kernel)
set_option maxRecDepth 20000 in
theorem gX4_pass__X4_no : GoodIn wsX4_pass_ (wsV RX4 58 RX4 yX4_no wsX4_no) := goodIn_app (goodIn_of _ (by decide +kernel)) ggX4_pass__X4_no
set_option maxRecDepth 20000 in
theorem ggX4_counted_X4_mills : GoodIn wsX4_counted wsX4_mills := goodIn_r _ [8, 3, 9, 16, 17, 18, 19, 20, 21, 22, 23, 24] (by decide +kernel) (by decide +kernel)
set_option maxRecDepth 20000 in
theorem gX4_counted_X4_mills : GoodIn wsX4_counted (wsV RX4 99 RX4 yX4_mills wsX4_mills) := goodIn_app (goodIn_of _ (by decide +kernel)) ggX4_counted_X4_mills
set_option maxRecDepth 20000 in
theorem ggX4_counted_X3_over : GoodIn wsX4_counted wsX3_over := goodIn_r _ [14, 15, 25, 26, 27, 28, 29, 30, 31, 32, 33, 34, 35, 36, 37, 38, 39, 40, 41, 16, 17, 18, 19, 20, 21, 22, 23, 24] (by decide +kernel) (by decide +kernel)
set_option maxRecDepth 20000 in
theorem gX4_counted_X3_over : GoodIn wsX4_counted (wsV RX4 127 RX3 yX3_over wsX3_over) := goodIn_app (goodIn_of _ (by decide +kernel)) ggX4_counted_X3_over
set_option maxRecDepth 20000 in
theorem ggX4_count_X4_isIn : GoodIn wsX4_count wsX4_isIn := goodIn_r _ [5] (by decide +kernel) (by decide +kernel)
set_option maxRecDepth 20000 in
theorem gX4_count_X4_isIn : GoodIn wsX4_count (va_wsS RX4 44 yX4_isIn wsX4_isIn) := goodIn_app (goodIn_of _ (by decide +kernel)) ggX4_count_X4_isIn
set_option maxRecDepth 20000 in
theorem ggX4_count_X4_counted : GoodIn wsX4_count wsX4_counted := goodIn_r _ [9, 10, 11, 12, 13, 14, 15, 4, 16, 17, 18, 19, 20, 21, 22, 23, 28, 29, 30, 31, 32, 33, 34, 35, 36, 37, 38, 39, 40, 41, 42, 43, 44, 45, 46, 47, 48, 49, 50, 51, 52, 53] (by decide +kernel) (by decide +kernel)
set_option maxRecDepth 20000 in
theorem gX4_count_X4_counted : GoodIn wsX4_count (wsV RX4 143 RX4 yX4_counted wsX4_counted) := goodIn_app (goodIn_of _ (by decide +kernel)) ggX4_count_X4_counted
set_option maxRecDepth 20000 in
theorem ggX4_count_X4_no : GoodIn wsX4_count wsX4_no := goodIn_r _ [27, 1, 28, 29, 30, 31, 32, 33, 34, 35, 36] (by decide +kernel) (by decide +kernel)
set_option maxRecDepth 20000 in
theorem gX4_count_X4_no : GoodIn wsX4_count (wsV RX4 58 RX4 yX4_no wsX4_no) := goodIn_app (goodIn_of _ (by decide +kernel)) ggX4_count_X4_no
set_option maxRecDepth 20000 in
theorem ggX4_foresee_X4_isIn : GoodIn wsX4_foresee wsX4_isIn := goodIn_r _ [7] (by decide +kernel) (by decide +kernel)
set_option maxRecDepth 20000 in
theorem gX4_foresee_X4_isIn : GoodIn wsX4_foresee (va_wsS RX4 44 yX4_isIn wsX4_isIn) := goodIn_app (goodIn_of _ (by decide +kernel)) ggX4_foresee_X4_isIn
set_option maxRecDepth 20000 in
theorem ggX4_foresee_X4_no : GoodIn wsX4_foresee wsX4_no := goodIn_r _ [11, 1, 75, 76, 77, 78, 79, 80, 81, 82, 83] (by decide +kernel) (by decide +kernel)
set_option maxRecDepth 20000 in
theorem gX4_foresee_X4_no : GoodIn wsX4_foresee (wsV RX4 58 RX4 yX4_no wsX4_no) := goodIn_app (goodIn_of _ (by decide +kernel)) ggX4_foresee_X4_no
set_option maxRecDepth 20000 in
theorem ggX4_foresee_X3_become : GoodIn wsX4_foresee wsX3_become := goodIn_r _ [16, 17, 18, 19, 20, 21, 22, 23, 24, 25, 26, 27, 28, 29, 30, 31, 32, 33, 34, 35, 15, 36, 37, 38, 39, 40, 84, 85, 86, 87, 88, 89, 90, 91, 92, 93, 94, 95, 96, 97, 98, 99, 100] (by decide +kernel) (by decide +kernel)
set_option maxRecDepth 20000 in
theorem gX4_foresee_X3_become : GoodIn wsX4_foresee (wsV RX4 146 RX3 yX3_become wsX3_become) := goodIn_app (goodIn_of _ (by decide +kernel)) ggX4_foresee_X3_become
set_option maxRecDepth 20000 in
theorem ggX4_foresee_X4_pass : GoodIn wsX4_foresee wsX4_pass := goodIn_r _ [43, 44, 45, 46, 15, 47, 17, 32, 48, 18, 49, 50, 51, 52, 31, 21, 27, 25, 28, 29, 23, 22, 24, 53, 6, 54, 55, 56, 57, 58, 59, 60, 61, 62, 63, 64, 65, 66, 19, 67, 68, 69, 70, 20, 26, 30, 84, 85, 86, 87, 88, 89, 90, 91, 92, 93, 94, 95, 96, 97, 98, 99, 100, 75, 76, 77, 78, 79, 80, 81, 82, 83] (by decide +kernel) (by decide +kernel)
set_option maxRecDepth 20000 in
theorem gX4_foresee_X4_pass : GoodIn wsX4_foresee (va_wsS RX4 121 yX4_pass wsX4_pass) := goodIn_app (goodIn_of _ (by decide +kernel)) ggX4_foresee_X4_pass
set_option maxRecDepth 20000 in
theorem ggX4_foresee_X3_over : GoodIn wsX4_foresee wsX3_over := goodIn_r _ [74, 48, 84, 85, 86, 87, 88, 89, 90, 91, 92, 93, 94, 95, 96, 97, 98, 99, 100, 75, 76, 77, 78, 79, 80, 81, 82, 83] (by decide +kernel) (by decide +kernel)
set_option maxRecDepth 20000 in
theorem gX4_foresee_X3_over : GoodIn wsX4_foresee (wsV RX4 127 RX3 yX3_over wsX3_over) := goodIn_app (goodIn_of _ (by decide +kernel)) ggX4_foresee_X3_over
set_option maxRecDepth 20000 in
theorem ggX4_advise_X4_isIn : GoodIn wsX4_advise wsX4_isIn := goodIn_r _ [8] (by decide +kernel) (by decide +kernel)
set_option maxRecDepth 20000 in
theorem gX4_advise_X4_isIn : GoodIn wsX4_advise (va_wsS RX4 44 yX4_isIn wsX4_isIn) := goodIn_app (goodIn_of _ (by decide +kernel)) ggX4_advise_X4_isIn
set_option maxRecDepth 20000 in
theorem ggX4_advise_X4_no : GoodIn wsX4_advise wsX4_no := goodIn_r _ [12, 1, 71, 72, 73, 74, 75, 76, 77, 78, 79] (by decide +kernel) (by decide +kernel)
set_option maxRecDepth 20000 in
theorem gX4_advise_X4_no : GoodIn wsX4_advise (wsV RX4 58 RX4 yX4_no wsX4_no) := goodIn_app (goodIn_of _ (by decide +kernel)) ggX4_advise_X4_no
set_option maxRecDepth 20000 in
theorem ggX4_advise_X3_become : GoodIn wsX4_advise wsX3_become := goodIn_r _ [17, 18, 19, 20, 21, 22, 23, 24, 25, 26, 27, 28, 29, 30, 31, 32, 33, 34, 35, 36, 16, 37, 38, 39, 40, 41, 80, 81, 82, 83, 84, 85, 86, 87, 88, 89, 90, 91, 92, 93, 94, 95, 96] (by decide +kernel) (by decide +kernel)
set_option maxRecDepth 20000 in
theorem gX4_advise_X3_become : GoodIn wsX4_advise (wsV RX4 146 RX3 yX3_become wsX3_become) := goodIn_app (goodIn_of _ (by decide +kernel)) ggX4_advise_X3_become
set_option maxRecDepth 20000 in
theorem ggX4_advise_X4_pass : GoodIn wsX4_advise wsX4_pass := goodIn_r _ [44, 45, 46, 47, 16, 48, 18, 33, 49, 19, 50, 51, 52, 53, 32, 22, 28, 26, 29, 30, 24, 23, 25, 54, 7, 55, 56, 57, 58, 59, 60, 61, 62, 4, 63, 64, 65, 66, 20, 67, 68, 69, 70, 21, 27, 31, 80, 81, 82, 83, 84, 85, 86, 87, 88, 89, 90, 91, 92, 93, 94, 95, 96, 71, 72, 73, 74, 75, 76, 77, 78, 79] (by decide +kernel) (by decide +kernel)
set_option maxRecDepth 20000 in
theorem gX4_advise_X4_pass : GoodIn wsX4_advise (va_wsS RX4 121 yX4_pass wsX4_pass) := goodIn_app (goodIn_of _ (by decide +kernel)) ggX4_advise_X4_pass
set_option maxRecDepth 20000 in
theorem ggX4_thirsty_X3_become : GoodIn wsX4_thirsty wsX3_become := goodIn_r _ [8, 9, 10, 11, 12, 13, 14, 15, 16, 17, 18, 19, 20, 21, 22, 23, 24, 25, 26, 27, 7, 28, 29, 30, 31, 32, 70, 71, 72, 73, 74, 75, 76, 77, 78, 79, 80, 81, 82, 83, 84, 85, 86] (by decide +kernel) (by decide +kernel)
set_option maxRecDepth 20000 in
theorem gX4_thirsty_X3_become : GoodIn wsX4_thirsty (wsV RX4 146 RX3 yX3_become wsX3_become) := goodIn_app (goodIn_of _ (by decide +kernel)) ggX4_thirsty_X3_become
set_option maxRecDepth 20000 in
theorem ggX4_thirsty_X3_pass : GoodIn wsX4_thirsty wsX3_pass := goodIn_r _ [36, 9, 24, 37, 10, 38, 39, 40, 41, 23, 13, 19, 17, 20, 21, 15, 14, 16, 42, 43, 44, 45, 46, 47, 48, 49, 50, 51, 52, 53, 54, 55, 7, 56, 11, 57, 58, 59, 60, 12, 18, 22, 70, 71, 72, 73, 74, 75, 76, 77, 78, 79, 80, 81, 82, 83, 84, 85, 86, 61, 62, 63, 64, 65, 66, 67, 68, 69] (by decide +kernel) (by decide +kernel)
set_option maxRecDepth 20000 in
theorem gX4_thirsty_X3_pass : GoodIn wsX4_thirsty (wsV RX4 118 RX3 yX3_pass wsX3_pass) := goodIn_app (goodIn_of _ (by decide +kernel)) ggX4_thirsty_X3_pass
set_option maxRecDepth 20000 in
theorem ggX4_digest_X4_counted : GoodIn wsX4_digest wsX4_counted := goodIn_r _ [11, 12, 13, 6, 14, 15, 16, 10, 17, 18, 19, 20, 21, 22, 23, 24, 47, 48, 49, 50, 51, 52, 53, 54, 55, 56, 57, 58, 59, 60, 61, 62, 63, 64, 65, 66, 67, 68, 69, 70, 71, 72] (by decide +kernel) (by decide +kernel)
set_option maxRecDepth 20000 in
theorem gX4_digest_X4_counted : GoodIn wsX4_digest (wsV RX4 143 RX4 yX4_counted wsX4_counted) := goodIn_app (goodIn_of _ (by decide +kernel)) ggX4_digest_X4_counted
set_option maxRecDepth 20000 in
theorem ggX4_digest_X4_archTold : GoodIn wsX4_digest wsX4_archTold := goodIn_r _ [28, 12, 29, 30, 13, 18, 31, 32, 33, 10, 34, 6, 35, 36, 37, 38, 39, 40, 41, 42, 47, 48, 49, 50, 51, 52, 53, 54, 55, 56, 57, 58, 59, 60, 61, 62, 63, 64, 65, 66, 67, 68, 69, 70, 71, 72] (by decide +kernel) (by decide +kernel)
set_option maxRecDepth 20000 in
theorem gX4_digest_X4_archTold : GoodIn wsX4_digest (wsV RX4 96 RX4 yX4_archTold wsX4_archTold) := goodIn_app (goodIn_of _ (by decide +kernel)) ggX4_digest_X4_archTold
set_option maxRecDepth 20000 in
theorem ggX4_digest_X4_millTold : GoodIn wsX4_digest wsX4_millTold := goodIn_r _ [46, 18, 13, 47, 48, 49, 50, 51, 52, 53, 54, 55, 56, 57, 58, 59, 60, 61, 62, 63, 64, 65, 66, 67, 68, 69, 70, 71, 72] (by decide +kernel) (by decide +kernel)
set_option maxRecDepth 20000 in
theorem gX4_digest_X4_millTold : GoodIn wsX4_digest (wsV RX4 112 RX4 yX4_millTold wsX4_millTold) := goodIn_app (goodIn_of _ (by decide +kernel)) ggX4_digest_X4_millTold
abbrev vwCl : List vw_C := [(RX0, TX0, 13), (RX1, TX1, 10), (RX2, TX2, 2), (RX3, TX3, 17), (RX4, TX4, 9)]
