/-! ===== BEGIN printed: names, fields, word lists, decode rows ===== -/
def RX0 : String := "WaterExchange$Reader"
def TX0 : u_T := fun k => match k with
  | 0 => ("WaterExchange$Reader", "text", "[B", true)
  | 1 => ("WaterExchange$Reader", "target", "LWaterExchange$State;", true)
  | 2 => ("WaterExchange$Reader", "length", "I", false)
  | 3 => ("WaterExchange$Reader", "failOffset", "I", false)
  | 4 => ("WaterExchange$Reader", "failKind", "I", false)
  | 5 => ("WaterExchange$Reader", "tokenKind", "I", false)
  | 6 => ("WaterExchange$Reader", "tokenStart", "I", false)
  | _ => ("WaterExchange$Reader", "tokenEnd", "I", false)
def tyX0 : Nat → FieldType := fun k => match k with
  | 0 => .array .byte
  | 1 => .object "WaterExchange$State"
  | 2 => .int
  | 3 => .int
  | 4 => .int
  | 5 => .int
  | 6 => .int
  | _ => .int
abbrev wsX00 : List Cond := u_ws RX0 TX0 8
theorem nmX0 : ∀ a, a < 8 → ∀ b, b < 8 → a ≠ b → (TX0 a).2.1 ≠ (TX0 b).2.1 := by decide +kernel
theorem tyX0_ok : ∀ k, k < 8 → parseFieldDescriptor (TX0 k).2.2.1 = some (tyX0 k) := by decide +kernel
abbrev cX0_init : ByteArray := prog_2_method_1_code
def yX0_init : MethodName := ⟨RX0, "<init>", "()V"⟩
abbrev cX0_addWord : ByteArray := prog_2_method_2_code
def yX0_addWord : MethodName := ⟨RX0, "addWord", "(I)V"⟩
abbrev cX0_readText : ByteArray := prog_2_method_3_code
def yX0_readText : MethodName := ⟨RX0, "readText", "()Z"⟩
abbrev cX0_nextToken : ByteArray := prog_2_method_4_code
def yX0_nextToken : MethodName := ⟨RX0, "nextToken", "()V"⟩
abbrev cX0_isBlank : ByteArray := prog_2_method_5_code
def yX0_isBlank : MethodName := ⟨RX0, "isBlank", "(I)Z"⟩
abbrev cX0_isLetter : ByteArray := prog_2_method_6_code
def yX0_isLetter : MethodName := ⟨RX0, "isLetter", "(I)Z"⟩
abbrev cX0_isDigit : ByteArray := prog_2_method_7_code
def yX0_isDigit : MethodName := ⟨RX0, "isDigit", "(I)Z"⟩
abbrev cX0_isWord : ByteArray := prog_2_method_8_code
def yX0_isWord : MethodName := ⟨RX0, "isWord", "(Ljava/lang/String;)Z"⟩
abbrev cX0_fail : ByteArray := prog_2_method_9_code
def yX0_fail : MethodName := ⟨RX0, "fail", "(II)V"⟩
abbrev cX0_takeNumber : ByteArray := prog_2_method_10_code
def yX0_takeNumber : MethodName := ⟨RX0, "takeNumber", "(II)I"⟩
abbrev cX0_readLine : ByteArray := prog_2_method_11_code
def yX0_readLine : MethodName := ⟨RX0, "readLine", "()V"⟩
abbrev cX0_takeRowWord : ByteArray := prog_2_method_12_code
def yX0_takeRowWord : MethodName := ⟨RX0, "takeRowWord", "(LWaterExchange$Table;I)V"⟩
abbrev cX0_readReach : ByteArray := prog_2_method_13_code
def yX0_readReach : MethodName := ⟨RX0, "readReach", "()V"⟩
abbrev cX0_readSeason : ByteArray := prog_2_method_14_code
def yX0_readSeason : MethodName := ⟨RX0, "readSeason", "()V"⟩
abbrev cX0_readYears : ByteArray := prog_2_method_15_code
def yX0_readYears : MethodName := ⟨RX0, "readYears", "()V"⟩
abbrev cX0_readAccounts : ByteArray := prog_2_method_16_code
def yX0_readAccounts : MethodName := ⟨RX0, "readAccounts", "()V"⟩
abbrev cX0_readRight : ByteArray := prog_2_method_17_code
def yX0_readRight : MethodName := ⟨RX0, "readRight", "()V"⟩
abbrev cX0_failIfTaken : ByteArray := prog_2_method_18_code
def yX0_failIfTaken : MethodName := ⟨RX0, "failIfTaken", "(LWaterExchange$Table;III)V"⟩
abbrev cX0_readLease : ByteArray := prog_2_method_19_code
def yX0_readLease : MethodName := ⟨RX0, "readLease", "()V"⟩
abbrev cX0_readOption : ByteArray := prog_2_method_20_code
def yX0_readOption : MethodName := ⟨RX0, "readOption", "()V"⟩
def RX1 : String := "WaterExchange$State"
def TX1 : u_T := fun k => match k with
  | 0 => ("WaterExchange$State", "reaches", "LWaterExchange$Table;", true)
  | 1 => ("WaterExchange$State", "seasons", "[I", true)
  | 2 => ("WaterExchange$State", "years", "[I", true)
  | 3 => ("WaterExchange$State", "yearCount", "I", false)
  | 4 => ("WaterExchange$State", "accounts", "LWaterExchange$Table;", true)
  | 5 => ("WaterExchange$State", "balances", "[J", true)
  | 6 => ("WaterExchange$State", "rights", "LWaterExchange$Table;", true)
  | 7 => ("WaterExchange$State", "ranking", "[I", true)
  | 8 => ("WaterExchange$State", "earnings", "[J", true)
  | 9 => ("WaterExchange$State", "leases", "LWaterExchange$Table;", true)
  | 10 => ("WaterExchange$State", "options", "LWaterExchange$Table;", true)
  | 11 => ("WaterExchange$State", "claimRows", "LWaterExchange$Table;", true)
  | 12 => ("WaterExchange$State", "gauges", "LWaterExchange$Table;", true)
  | 13 => ("WaterExchange$State", "months", "LWaterExchange$Table;", true)
  | 14 => ("WaterExchange$State", "time", "I", false)
  | 15 => ("WaterExchange$State", "loss", "I", false)
  | 16 => ("WaterExchange$State", "bankedSum", "I", false)
  | 17 => ("WaterExchange$State", "lostSum", "I", false)
  | _ => ("WaterExchange$State", "releasedSum", "I", false)
def tyX1 : Nat → FieldType := fun k => match k with
  | 0 => .object "WaterExchange$Table"
  | 1 => .array .int
  | 2 => .array .int
  | 3 => .int
  | 4 => .object "WaterExchange$Table"
  | 5 => .array .long
  | 6 => .object "WaterExchange$Table"
  | 7 => .array .int
  | 8 => .array .long
  | 9 => .object "WaterExchange$Table"
  | 10 => .object "WaterExchange$Table"
  | 11 => .object "WaterExchange$Table"
  | 12 => .object "WaterExchange$Table"
  | 13 => .object "WaterExchange$Table"
  | 14 => .int
  | 15 => .int
  | 16 => .int
  | 17 => .int
  | _ => .int
abbrev wsX10 : List Cond := u_ws RX1 TX1 19
theorem nmX1 : ∀ a, a < 19 → ∀ b, b < 19 → a ≠ b → (TX1 a).2.1 ≠ (TX1 b).2.1 := by decide +kernel
theorem tyX1_ok : ∀ k, k < 19 → parseFieldDescriptor (TX1 k).2.2.1 = some (tyX1 k) := by decide +kernel
abbrev cX1_init : ByteArray := prog_3_method_1_code
def yX1_init : MethodName := ⟨RX1, "<init>", "()V"⟩
abbrev cX1_copyFrom : ByteArray := prog_3_method_2_code
def yX1_copyFrom : MethodName := ⟨RX1, "copyFrom", "(LWaterExchange$State;)V"⟩
abbrev cX1_makeEmpty : ByteArray := prog_3_method_3_code
def yX1_makeEmpty : MethodName := ⟨RX1, "makeEmpty", "()V"⟩
abbrev cX1_seasonPercentOf : ByteArray := prog_3_method_4_code
def yX1_seasonPercentOf : MethodName := ⟨RX1, "seasonPercentOf", "(I)I"⟩
abbrev cX1_percentOfYear : ByteArray := prog_3_method_5_code
def yX1_percentOfYear : MethodName := ⟨RX1, "percentOfYear", "(I)I"⟩
abbrev cX1_comingInto : ByteArray := prog_3_method_6_code
def yX1_comingInto : MethodName := ⟨RX1, "comingInto", "(I)I"⟩
abbrev cX1_isExercised : ByteArray := prog_3_method_7_code
def yX1_isExercised : MethodName := ⟨RX1, "isExercised", "(II)Z"⟩
abbrev cX1_rightAtRank : ByteArray := prog_3_method_10_code
def yX1_rightAtRank : MethodName := ⟨RX1, "rightAtRank", "(I)I"⟩
abbrev cX1_outflowOfMonth : ByteArray := prog_3_method_12_code
def yX1_outflowOfMonth : MethodName := ⟨RX1, "outflowOfMonth", "()I"⟩
abbrev cX1_rankRights : ByteArray := prog_3_method_13_code
def yX1_rankRights : MethodName := ⟨RX1, "rankRights", "()V"⟩
abbrev cX1_addLease : ByteArray := prog_3_method_14_code
def yX1_addLease : MethodName := ⟨RX1, "addLease", "(IIIIII)I"⟩
abbrev cX1_pay : ByteArray := prog_3_method_15_code
def yX1_pay : MethodName := ⟨RX1, "pay", "(III)V"⟩
abbrev cX1_runMonth : ByteArray := prog_3_method_16_code
def yX1_runMonth : MethodName := ⟨RX1, "runMonth", "(I)I"⟩
abbrev cX1_openGauges : ByteArray := prog_3_method_17_code
def yX1_openGauges : MethodName := ⟨RX1, "openGauges", "()V"⟩
abbrev cX1_payPremiums : ByteArray := prog_3_method_18_code
def yX1_payPremiums : MethodName := ⟨RX1, "payPremiums", "()V"⟩
abbrev cX1_isCut : ByteArray := prog_3_method_19_code
def yX1_isCut : MethodName := ⟨RX1, "isCut", "(I)Z"⟩
abbrev cX1_serveClaimsOf : ByteArray := prog_3_method_20_code
def yX1_serveClaimsOf : MethodName := ⟨RX1, "serveClaimsOf", "(I)V"⟩
abbrev cX1_exercisedOptionOf : ByteArray := prog_3_method_21_code
def yX1_exercisedOptionOf : MethodName := ⟨RX1, "exercisedOptionOf", "(I)I"⟩
abbrev cX1_addClaim : ByteArray := prog_3_method_22_code
def yX1_addClaim : MethodName := ⟨RX1, "addClaim", "(IIII)I"⟩
abbrev cX1_claimOfOther : ByteArray := prog_3_method_23_code
def yX1_claimOfOther : MethodName := ⟨RX1, "claimOfOther", "(ILWaterExchange$Table;III)V"⟩
abbrev cX1_claimOfOwner : ByteArray := prog_3_method_24_code
def yX1_claimOfOwner : MethodName := ⟨RX1, "claimOfOwner", "(II)V"⟩
abbrev cX1_percentOf : ByteArray := prog_3_method_25_code
def yX1_percentOf : MethodName := ⟨RX1, "percentOf", "(II)I"⟩
abbrev cX1_mostThatLowersBy : ByteArray := prog_3_method_26_code
def yX1_mostThatLowersBy : MethodName := ⟨RX1, "mostThatLowersBy", "(IIII)I"⟩
abbrev cX1_leastSpare : ByteArray := prog_3_method_27_code
def yX1_leastSpare : MethodName := ⟨RX1, "leastSpare", "(III)I"⟩
abbrev cX1_divert : ByteArray := prog_3_method_28_code
def yX1_divert : MethodName := ⟨RX1, "divert", "(III)V"⟩
abbrev cX1_putInBank : ByteArray := prog_3_method_29_code
def yX1_putInBank : MethodName := ⟨RX1, "putInBank", "(III)V"⟩
abbrev cX1_giveBack : ByteArray := prog_3_method_30_code
def yX1_giveBack : MethodName := ⟨RX1, "giveBack", "(III)V"⟩
abbrev cX1_remember : ByteArray := prog_3_method_31_code
def yX1_remember : MethodName := ⟨RX1, "remember", "(II)V"⟩
abbrev cX1_endMonth : ByteArray := prog_3_method_32_code
def yX1_endMonth : MethodName := ⟨RX1, "endMonth", "()V"⟩
def RX2 : String := "WaterExchange$Table"
def TX2 : u_T := fun k => match k with
  | 0 => ("WaterExchange$Table", "columns", "I", true)
  | 1 => ("WaterExchange$Table", "cells", "[I", true)
  | _ => ("WaterExchange$Table", "rows", "I", false)
def tyX2 : Nat → FieldType := fun k => match k with
  | 0 => .int
  | 1 => .array .int
  | _ => .int
abbrev wsX20 : List Cond := u_ws RX2 TX2 3
theorem nmX2 : ∀ a, a < 3 → ∀ b, b < 3 → a ≠ b → (TX2 a).2.1 ≠ (TX2 b).2.1 := by decide +kernel
theorem tyX2_ok : ∀ k, k < 3 → parseFieldDescriptor (TX2 k).2.2.1 = some (tyX2 k) := by decide +kernel
abbrev cX2_init : ByteArray := prog_4_method_1_code
def yX2_init : MethodName := ⟨RX2, "<init>", "(II)V"⟩
abbrev cX2_has : ByteArray := prog_4_method_2_code
def yX2_has : MethodName := ⟨RX2, "has", "(I)Z"⟩
abbrev cX2_get : ByteArray := prog_4_method_3_code
def yX2_get : MethodName := ⟨RX2, "get", "(II)I"⟩
abbrev cX2_put : ByteArray := prog_4_method_4_code
def yX2_put : MethodName := ⟨RX2, "put", "(III)V"⟩
abbrev cX2_increase : ByteArray := prog_4_method_5_code
def yX2_increase : MethodName := ⟨RX2, "increase", "(III)V"⟩
abbrev cX2_increaseFrom : ByteArray := prog_4_method_6_code
def yX2_increaseFrom : MethodName := ⟨RX2, "increaseFrom", "(III)V"⟩
abbrev cX2_sumOf : ByteArray := prog_4_method_7_code
def yX2_sumOf : MethodName := ⟨RX2, "sumOf", "(I)I"⟩
abbrev cX2_addRow : ByteArray := prog_4_method_8_code
def yX2_addRow : MethodName := ⟨RX2, "addRow", "()I"⟩
abbrev cX2_removeRow : ByteArray := prog_4_method_9_code
def yX2_removeRow : MethodName := ⟨RX2, "removeRow", "(I)V"⟩
abbrev cX2_removeAll : ByteArray := prog_4_method_11_code
def yX2_removeAll : MethodName := ⟨RX2, "removeAll", "()V"⟩
abbrev cX2_copyFrom : ByteArray := prog_4_method_12_code
def yX2_copyFrom : MethodName := ⟨RX2, "copyFrom", "(LWaterExchange$Table;)V"⟩
def RX3 : String := "WaterExchange"
def TX3 : u_T := fun k => match k with
  | 0 => ("WaterExchange", "now", "LWaterExchange$State;", true)
  | 1 => ("WaterExchange", "trial", "LWaterExchange$State;", true)
  | 2 => ("WaterExchange", "reader", "LWaterExchange$Reader;", true)
  | 3 => ("WaterExchange", "usualGot", "[I", true)
  | 4 => ("WaterExchange", "past", "[LWaterExchange$State;", true)
  | 5 => ("WaterExchange", "pastCount", "I", false)
  | 6 => ("WaterExchange", "slots", "[LWaterExchange$State;", true)
  | 7 => ("WaterExchange", "slotFilled", "[Z", true)
  | _ => ("WaterExchange", "text", "Ljava/lang/StringBuilder;", true)
def tyX3 : Nat → FieldType := fun k => match k with
  | 0 => .object "WaterExchange$State"
  | 1 => .object "WaterExchange$State"
  | 2 => .object "WaterExchange$Reader"
  | 3 => .array .int
  | 4 => .array (.object "WaterExchange$State")
  | 5 => .int
  | 6 => .array (.object "WaterExchange$State")
  | 7 => .array .boolean
  | _ => .object "java/lang/StringBuilder"
abbrev wsX30 : List Cond := u_ws RX3 TX3 9
theorem nmX3 : ∀ a, a < 9 → ∀ b, b < 9 → a ≠ b → (TX3 a).2.1 ≠ (TX3 b).2.1 := by decide +kernel
theorem tyX3_ok : ∀ k, k < 9 → parseFieldDescriptor (TX3 k).2.2.1 = some (tyX3 k) := by decide +kernel
abbrev cX3_init : ByteArray := prog_1_method_1_code
def yX3_init : MethodName := ⟨RX3, "<init>", "()V"⟩
abbrev cX3_append : ByteArray := prog_1_method_2_code
def yX3_append : MethodName := ⟨RX3, "append", "(IIIII)I"⟩
abbrev cX3_truncate : ByteArray := prog_1_method_3_code
def yX3_truncate : MethodName := ⟨RX3, "truncate", "(I)Z"⟩
abbrev cX3_load : ByteArray := prog_1_method_4_code
def yX3_load : MethodName := ⟨RX3, "load", "()I"⟩
abbrev cX3_errorKind : ByteArray := prog_1_method_6_code
def yX3_errorKind : MethodName := ⟨RX3, "errorKind", "()I"⟩
abbrev cX3_count : ByteArray := prog_1_method_7_code
def yX3_count : MethodName := ⟨RX3, "count", "(I)I"⟩
abbrev cX3_reach : ByteArray := prog_1_method_10_code
def yX3_reach : MethodName := ⟨RX3, "reach", "(II)I"⟩
abbrev cX3_coming : ByteArray := prog_1_method_11_code
def yX3_coming : MethodName := ⟨RX3, "coming", "(I)I"⟩
abbrev cX3_right : ByteArray := prog_1_method_14_code
def yX3_right : MethodName := ⟨RX3, "right", "(II)I"⟩
abbrev cX3_claims : ByteArray := prog_1_method_18_code
def yX3_claims : MethodName := ⟨RX3, "claims", "()I"⟩
abbrev cX3_claim : ByteArray := prog_1_method_19_code
def yX3_claim : MethodName := ⟨RX3, "claim", "(II)I"⟩
abbrev cX3_gauge : ByteArray := prog_1_method_20_code
def yX3_gauge : MethodName := ⟨RX3, "gauge", "(II)I"⟩
abbrev cX3_outflow : ByteArray := prog_1_method_24_code
def yX3_outflow : MethodName := ⟨RX3, "outflow", "()I"⟩
abbrev cX3_run : ByteArray := prog_1_method_48_code
def yX3_run : MethodName := ⟨RX3, "run", "(I)I"⟩
abbrev cX3_record : ByteArray := prog_1_method_60_code
def yX3_record : MethodName := ⟨RX3, "record", "()V"⟩
abbrev cX3_needRow : ByteArray := prog_1_method_65_code
def yX3_needRow : MethodName := ⟨RX3, "needRow", "(LWaterExchange$Table;I)V"⟩
abbrev cX3_needWhat : ByteArray := prog_1_method_67_code
def yX3_needWhat : MethodName := ⟨RX3, "needWhat", "(II)V"⟩
abbrev cX3_needRange : ByteArray := prog_1_method_68_code
def yX3_needRange : MethodName := ⟨RX3, "needRange", "(III)V"⟩
abbrev cX3_needReaches : ByteArray := prog_1_method_69_code
def yX3_needReaches : MethodName := ⟨RX3, "needReaches", "()V"⟩
def RX4 : String := "WaterExchangeLaw$Made"
def TX4 : u_T := fun k => match k with
  | 0 => ("WaterExchangeLaw$Made", "x", "LWaterExchange;", true)
  | 1 => ("WaterExchangeLaw$Made", "reaches", "I", true)
  | 2 => ("WaterExchangeLaw$Made", "accounts", "I", true)
  | 3 => ("WaterExchangeLaw$Made", "rights", "I", true)
  | 4 => ("WaterExchangeLaw$Made", "leases", "I", true)
  | 5 => ("WaterExchangeLaw$Made", "options", "I", false)
  | _ => ("WaterExchangeLaw$Made", "good", "Z", true)
def tyX4 : Nat → FieldType := fun k => match k with
  | 0 => .object "WaterExchange"
  | 1 => .int
  | 2 => .int
  | 3 => .int
  | 4 => .int
  | 5 => .int
  | _ => .boolean
abbrev wsX40 : List Cond := u_ws RX4 TX4 7
theorem nmX4 : ∀ a, a < 7 → ∀ b, b < 7 → a ≠ b → (TX4 a).2.1 ≠ (TX4 b).2.1 := by decide +kernel
theorem tyX4_ok : ∀ k, k < 7 → parseFieldDescriptor (TX4 k).2.2.1 = some (tyX4 k) := by decide +kernel
abbrev cX4_init : ByteArray := prog_6_method_1_code
def yX4_init : MethodName := ⟨RX4, "<init>", "(LWaterExchangeLaw$Random;)V"⟩
def RX5 : String := "WaterExchangeLaw$Random"
def TX5 : u_T := fun k => match k with
  | _ => ("WaterExchangeLaw$Random", "v", "I", false)
def tyX5 : Nat → FieldType := fun k => match k with
  | _ => .int
abbrev wsX50 : List Cond := u_ws RX5 TX5 1
theorem nmX5 : ∀ a, a < 1 → ∀ b, b < 1 → a ≠ b → (TX5 a).2.1 ≠ (TX5 b).2.1 := by decide +kernel
theorem tyX5_ok : ∀ k, k < 1 → parseFieldDescriptor (TX5 k).2.2.1 = some (tyX5 k) := by decide +kernel
abbrev cX5_init : ByteArray := prog_7_method_1_code
def yX5_init : MethodName := ⟨RX5, "<init>", "(I)V"⟩
abbrev cX5_next : ByteArray := prog_7_method_2_code
def yX5_next : MethodName := ⟨RX5, "next", "(I)I"⟩
def RX6 : String := "WaterExchangeModel"
def TX6 : u_T := fun k => match k with
  | _ => ("", "", "", false)
def tyX6 : Nat → FieldType := fun k => match k with
  | _ => .int
abbrev wsX60 : List Cond := u_ws RX6 TX6 0
theorem nmX6 : ∀ a, a < 0 → ∀ b, b < 0 → a ≠ b → (TX6 a).2.1 ≠ (TX6 b).2.1 := by decide +kernel
theorem tyX6_ok : ∀ k, k < 0 → parseFieldDescriptor (TX6 k).2.2.1 = some (tyX6 k) := by decide +kernel
def RJx145de : String := "java/io/Serializable"
def TJx145de : u_T := fun k => match k with
  | _ => ("", "", "", false)
def tyJx145de : Nat → FieldType := fun k => match k with
  | _ => .int
abbrev wsJx145de0 : List Cond := u_ws RJx145de TJx145de 0
theorem nmJx145de : ∀ a, a < 0 → ∀ b, b < 0 → a ≠ b → (TJx145de a).2.1 ≠ (TJx145de b).2.1 := by decide +kernel
theorem tyJx145de_ok : ∀ k, k < 0 → parseFieldDescriptor (TJx145de k).2.2.1 = some (tyJx145de k) := by decide +kernel
def RJ5 : String := "java/lang/AbstractStringBuilder"
def TJ5 : u_T := fun k => match k with
  | _ => ("", "", "", false)
def tyJ5 : Nat → FieldType := fun k => match k with
  | _ => .int
abbrev wsJ50 : List Cond := u_ws RJ5 TJ5 0
theorem nmJ5 : ∀ a, a < 0 → ∀ b, b < 0 → a ≠ b → (TJ5 a).2.1 ≠ (TJ5 b).2.1 := by decide +kernel
theorem tyJ5_ok : ∀ k, k < 0 → parseFieldDescriptor (TJ5 k).2.2.1 = some (tyJ5 k) := by decide +kernel
abbrev cJ5_init_d00df : ByteArray := prog_10_method_2_code
def yJ5_init_d00df : MethodName := ⟨RJ5, "<init>", "(I)V"⟩
abbrev cJ5_init_a7421 : ByteArray := prog_10_method_3_code
def yJ5_init_a7421 : MethodName := ⟨RJ5, "<init>", "(Ljava/lang/String;)V"⟩
abbrev cJ5_length_8abf5 : ByteArray := prog_10_method_6_code
def yJ5_length_8abf5 : MethodName := ⟨RJ5, "length", "()I"⟩
abbrev cJ5_ensureCapacityInternal_d00df : ByteArray := prog_10_method_9_code
def yJ5_ensureCapacityInternal_d00df : MethodName := ⟨RJ5, "ensureCapacityInternal", "(I)V"⟩
abbrev cJ5_newCapacity_0f7a4 : ByteArray := prog_10_method_10_code
def yJ5_newCapacity_0f7a4 : MethodName := ⟨RJ5, "newCapacity", "(I)I"⟩
abbrev cJ5_inflate_da8c8 : ByteArray := prog_10_method_11_code
def yJ5_inflate_da8c8 : MethodName := ⟨RJ5, "inflate", "()V"⟩
abbrev cJ5_append_cf1ce : ByteArray := prog_10_method_22_code
def yJ5_append_cf1ce : MethodName := ⟨RJ5, "append", "(Ljava/lang/String;)Ljava/lang/AbstractStringBuilder;"⟩
abbrev cJ5_appendNull_278bc : ByteArray := prog_10_method_26_code
def yJ5_appendNull_278bc : MethodName := ⟨RJ5, "appendNull", "()Ljava/lang/AbstractStringBuilder;"⟩
abbrev cJ5_append_c97b9 : ByteArray := prog_10_method_32_code
def yJ5_append_c97b9 : MethodName := ⟨RJ5, "append", "(I)Ljava/lang/AbstractStringBuilder;"⟩
abbrev cJ5_getValue_6d5f1 : ByteArray := prog_10_method_64_code
def yJ5_getValue_6d5f1 : MethodName := ⟨RJ5, "getValue", "()[B"⟩
abbrev cJ5_isLatin1_aae02 : ByteArray := prog_10_method_68_code
def yJ5_isLatin1_aae02 : MethodName := ⟨RJ5, "isLatin1", "()Z"⟩
abbrev cJ5_inflateIfNeededFor_a7421 : ByteArray := prog_10_method_71_code
def yJ5_inflateIfNeededFor_a7421 : MethodName := ⟨RJ5, "inflateIfNeededFor", "(Ljava/lang/String;)V"⟩
abbrev cJ5_putStringAt_47b60 : ByteArray := prog_10_method_73_code
def yJ5_putStringAt_47b60 : MethodName := ⟨RJ5, "putStringAt", "(ILjava/lang/String;)V"⟩
def RJx2cfe8 : String := "java/lang/Appendable"
def TJx2cfe8 : u_T := fun k => match k with
  | _ => ("", "", "", false)
def tyJx2cfe8 : Nat → FieldType := fun k => match k with
  | _ => .int
abbrev wsJx2cfe80 : List Cond := u_ws RJx2cfe8 TJx2cfe8 0
theorem nmJx2cfe8 : ∀ a, a < 0 → ∀ b, b < 0 → a ≠ b → (TJx2cfe8 a).2.1 ≠ (TJx2cfe8 b).2.1 := by decide +kernel
theorem tyJx2cfe8_ok : ∀ k, k < 0 → parseFieldDescriptor (TJx2cfe8 k).2.2.1 = some (tyJx2cfe8 k) := by decide +kernel
def RJx9f9b0 : String := "java/lang/CharSequence"
def TJx9f9b0 : u_T := fun k => match k with
  | _ => ("", "", "", false)
def tyJx9f9b0 : Nat → FieldType := fun k => match k with
  | _ => .int
abbrev wsJx9f9b00 : List Cond := u_ws RJx9f9b0 TJx9f9b0 0
theorem nmJx9f9b0 : ∀ a, a < 0 → ∀ b, b < 0 → a ≠ b → (TJx9f9b0 a).2.1 ≠ (TJx9f9b0 b).2.1 := by decide +kernel
theorem tyJx9f9b0_ok : ∀ k, k < 0 → parseFieldDescriptor (TJx9f9b0 k).2.2.1 = some (tyJx9f9b0 k) := by decide +kernel
def RJx8e188 : String := "java/lang/Cloneable"
def TJx8e188 : u_T := fun k => match k with
  | _ => ("", "", "", false)
def tyJx8e188 : Nat → FieldType := fun k => match k with
  | _ => .int
abbrev wsJx8e1880 : List Cond := u_ws RJx8e188 TJx8e188 0
theorem nmJx8e188 : ∀ a, a < 0 → ∀ b, b < 0 → a ≠ b → (TJx8e188 a).2.1 ≠ (TJx8e188 b).2.1 := by decide +kernel
theorem tyJx8e188_ok : ∀ k, k < 0 → parseFieldDescriptor (TJx8e188 k).2.2.1 = some (tyJx8e188 k) := by decide +kernel
def RJxb160c : String := "java/lang/Comparable"
def TJxb160c : u_T := fun k => match k with
  | _ => ("", "", "", false)
def tyJxb160c : Nat → FieldType := fun k => match k with
  | _ => .int
abbrev wsJxb160c0 : List Cond := u_ws RJxb160c TJxb160c 0
theorem nmJxb160c : ∀ a, a < 0 → ∀ b, b < 0 → a ≠ b → (TJxb160c a).2.1 ≠ (TJxb160c b).2.1 := by decide +kernel
theorem tyJxb160c_ok : ∀ k, k < 0 → parseFieldDescriptor (TJxb160c k).2.2.1 = some (tyJxb160c k) := by decide +kernel
def RJ6 : String := "java/lang/Integer"
def TJ6 : u_T := fun k => match k with
  | _ => ("", "", "", false)
def tyJ6 : Nat → FieldType := fun k => match k with
  | _ => .int
abbrev wsJ60 : List Cond := u_ws RJ6 TJ6 0
theorem nmJ6 : ∀ a, a < 0 → ∀ b, b < 0 → a ≠ b → (TJ6 a).2.1 ≠ (TJ6 b).2.1 := by decide +kernel
theorem tyJ6_ok : ∀ k, k < 0 → parseFieldDescriptor (TJ6 k).2.2.1 = some (tyJ6 k) := by decide +kernel
abbrev cJ6_getChars_ba4f3 : ByteArray := prog_19_method_12_code
def yJ6_getChars_ba4f3 : MethodName := ⟨RJ6, "getChars", "(II[B)I"⟩
abbrev cJ6_stringSize_0f7a4 : ByteArray := prog_19_method_13_code
def yJ6_stringSize_0f7a4 : MethodName := ⟨RJ6, "stringSize", "(I)I"⟩
def RJ9 : String := "java/lang/Math"
def TJ9 : u_T := fun k => match k with
  | _ => ("", "", "", false)
def tyJ9 : Nat → FieldType := fun k => match k with
  | _ => .int
abbrev wsJ90 : List Cond := u_ws RJ9 TJ9 0
theorem nmJ9 : ∀ a, a < 0 → ∀ b, b < 0 → a ≠ b → (TJ9 a).2.1 ≠ (TJ9 b).2.1 := by decide +kernel
theorem tyJ9_ok : ∀ k, k < 0 → parseFieldDescriptor (TJ9 k).2.2.1 = some (tyJ9 k) := by decide +kernel
abbrev cJ9_max_7cf53 : ByteArray := prog_20_method_65_code
def yJ9_max_7cf53 : MethodName := ⟨RJ9, "max", "(II)I"⟩
abbrev cJ9_min_7cf53 : ByteArray := prog_20_method_69_code
def yJ9_min_7cf53 : MethodName := ⟨RJ9, "min", "(II)I"⟩
def RJxd2413 : String := "java/lang/Number"
def TJxd2413 : u_T := fun k => match k with
  | _ => ("", "", "", false)
def tyJxd2413 : Nat → FieldType := fun k => match k with
  | _ => .int
abbrev wsJxd24130 : List Cond := u_ws RJxd2413 TJxd2413 0
theorem nmJxd2413 : ∀ a, a < 0 → ∀ b, b < 0 → a ≠ b → (TJxd2413 a).2.1 ≠ (TJxd2413 b).2.1 := by decide +kernel
theorem tyJxd2413_ok : ∀ k, k < 0 → parseFieldDescriptor (TJxd2413 k).2.2.1 = some (tyJxd2413 k) := by decide +kernel
def RJ0 : String := "java/lang/String"
def TJ0 : u_T := fun k => match k with
  | 0 => ("java/lang/String", "value", "[B", true)
  | 1 => ("java/lang/String", "coder", "B", true)
  | 2 => ("java/lang/String", "hash", "I", false)
  | _ => ("java/lang/String", "hashIsZero", "Z", false)
def tyJ0 : Nat → FieldType := fun k => match k with
  | 0 => .array .byte
  | 1 => .byte
  | 2 => .int
  | _ => .boolean
abbrev wsJ00 : List Cond := u_ws RJ0 TJ0 4
theorem nmJ0 : ∀ a, a < 4 → ∀ b, b < 4 → a ≠ b → (TJ0 a).2.1 ≠ (TJ0 b).2.1 := by decide +kernel
theorem tyJ0_ok : ∀ k, k < 4 → parseFieldDescriptor (TJ0 k).2.2.1 = some (tyJ0 k) := by decide +kernel
abbrev cJ0_init_81219 : ByteArray := prog_23_method_53_code
def yJ0_init_81219 : MethodName := ⟨RJ0, "<init>", "(Ljava/lang/StringBuilder;)V"⟩
abbrev cJ0_length_8abf5 : ByteArray := prog_23_method_54_code
def yJ0_length_8abf5 : MethodName := ⟨RJ0, "length", "()I"⟩
abbrev cJ0_charAt_5068e : ByteArray := prog_23_method_56_code
def yJ0_charAt_5068e : MethodName := ⟨RJ0, "charAt", "(I)C"⟩
abbrev cJ0_getBytes_840e7 : ByteArray := prog_23_method_147_code
def yJ0_getBytes_840e7 : MethodName := ⟨RJ0, "getBytes", "([BIB)V"⟩
abbrev cJ0_init_db425 : ByteArray := prog_23_method_150_code
def yJ0_init_db425 : MethodName := ⟨RJ0, "<init>", "(Ljava/lang/AbstractStringBuilder;Ljava/lang/Void;)V"⟩
abbrev cJ0_coder_7d493 : ByteArray := prog_23_method_152_code
def yJ0_coder_7d493 : MethodName := ⟨RJ0, "coder", "()B"⟩
abbrev cJ0_isLatin1_aae02 : ByteArray := prog_23_method_154_code
def yJ0_isLatin1_aae02 : MethodName := ⟨RJ0, "isLatin1", "()Z"⟩
abbrev cJ0_checkIndex_df160 : ByteArray := prog_23_method_155_code
def yJ0_checkIndex_df160 : MethodName := ⟨RJ0, "checkIndex", "(II)V"⟩
abbrev cJ0_checkBoundsOffCount_cabcc : ByteArray := prog_23_method_157_code
def yJ0_checkBoundsOffCount_cabcc : MethodName := ⟨RJ0, "checkBoundsOffCount", "(III)I"⟩
abbrev cJ0_checkBoundsBeginEnd_23922 : ByteArray := prog_23_method_158_code
def yJ0_checkBoundsBeginEnd_23922 : MethodName := ⟨RJ0, "checkBoundsBeginEnd", "(III)V"⟩
def RJ4 : String := "java/lang/StringBuilder"
def TJ4 : u_T := fun k => match k with
  | 0 => ("java/lang/AbstractStringBuilder", "value", "[B", false)
  | 1 => ("java/lang/AbstractStringBuilder", "coder", "B", false)
  | 2 => ("java/lang/AbstractStringBuilder", "maybeLatin1", "Z", false)
  | _ => ("java/lang/AbstractStringBuilder", "count", "I", false)
def tyJ4 : Nat → FieldType := fun k => match k with
  | 0 => .array .byte
  | 1 => .byte
  | 2 => .boolean
  | _ => .int
abbrev wsJ40 : List Cond := u_ws RJ4 TJ4 4
theorem nmJ4 : ∀ a, a < 4 → ∀ b, b < 4 → a ≠ b → (TJ4 a).2.1 ≠ (TJ4 b).2.1 := by decide +kernel
theorem tyJ4_ok : ∀ k, k < 4 → parseFieldDescriptor (TJ4 k).2.2.1 = some (tyJ4 k) := by decide +kernel
abbrev cJ4_init_da8c8 : ByteArray := prog_24_method_1_code
def yJ4_init_da8c8 : MethodName := ⟨RJ4, "<init>", "()V"⟩
abbrev cJ4_init_a7421 : ByteArray := prog_24_method_3_code
def yJ4_init_a7421 : MethodName := ⟨RJ4, "<init>", "(Ljava/lang/String;)V"⟩
abbrev cJ4_append_15ec4 : ByteArray := prog_24_method_7_code
def yJ4_append_15ec4 : MethodName := ⟨RJ4, "append", "(Ljava/lang/String;)Ljava/lang/StringBuilder;"⟩
abbrev cJ4_append_bf812 : ByteArray := prog_24_method_15_code
def yJ4_append_bf812 : MethodName := ⟨RJ4, "append", "(I)Ljava/lang/StringBuilder;"⟩
abbrev cJ4_toString_0e30d : ByteArray := prog_24_method_42_code
def yJ4_toString_0e30d : MethodName := ⟨RJ4, "toString", "()Ljava/lang/String;"⟩
abbrev cJ4_append_cf1ce : ByteArray := prog_24_method_80_code
def yJ4_append_cf1ce : MethodName := ⟨RJ4, "append", "(Ljava/lang/String;)Ljava/lang/AbstractStringBuilder;"⟩
abbrev cJ4_length_8abf5 : ByteArray := prog_24_method_93_code
def yJ4_length_8abf5 : MethodName := ⟨RJ4, "length", "()I"⟩
def RJ1 : String := "java/lang/StringLatin1"
def TJ1 : u_T := fun k => match k with
  | _ => ("", "", "", false)
def tyJ1 : Nat → FieldType := fun k => match k with
  | _ => .int
abbrev wsJ10 : List Cond := u_ws RJ1 TJ1 0
theorem nmJ1 : ∀ a, a < 0 → ∀ b, b < 0 → a ≠ b → (TJ1 a).2.1 ≠ (TJ1 b).2.1 := by decide +kernel
theorem tyJ1_ok : ∀ k, k < 0 → parseFieldDescriptor (TJ1 k).2.2.1 = some (tyJ1 k) := by decide +kernel
abbrev cJ1_charAt_3b067 : ByteArray := prog_25_method_2_code
def yJ1_charAt_3b067 : MethodName := ⟨RJ1, "charAt", "([BI)C"⟩
abbrev cJ1_inflate_0e8fd : ByteArray := prog_25_method_50_code
def yJ1_inflate_0e8fd : MethodName := ⟨RJ1, "inflate", "([BI[BII)V"⟩
def RJ2 : String := "java/lang/StringUTF16"
def TJ2 : u_T := fun k => match k with
  | _ => ("", "", "", false)
def tyJ2 : Nat → FieldType := fun k => match k with
  | _ => .int
abbrev wsJ20 : List Cond := u_ws RJ2 TJ2 0
theorem nmJ2 : ∀ a, a < 0 → ∀ b, b < 0 → a ≠ b → (TJ2 a).2.1 ≠ (TJ2 b).2.1 := by decide +kernel
theorem tyJ2_ok : ∀ k, k < 0 → parseFieldDescriptor (TJ2 k).2.2.1 = some (tyJ2 k) := by decide +kernel
abbrev cJ2_newBytesFor_77867 : ByteArray := prog_26_method_2_code
def yJ2_newBytesFor_77867 : MethodName := ⟨RJ2, "newBytesFor", "(I)[B"⟩
abbrev cJ2_newBytesLength_0f7a4 : ByteArray := prog_26_method_3_code
def yJ2_newBytesLength_0f7a4 : MethodName := ⟨RJ2, "newBytesLength", "(I)I"⟩
abbrev cJ2_putChar_b72d1 : ByteArray := prog_26_method_4_code
def yJ2_putChar_b72d1 : MethodName := ⟨RJ2, "putChar", "([BII)V"⟩
abbrev cJ2_getChar_3b067 : ByteArray := prog_26_method_5_code
def yJ2_getChar_3b067 : MethodName := ⟨RJ2, "getChar", "([BI)C"⟩
abbrev cJ2_length_9d52b : ByteArray := prog_26_method_6_code
def yJ2_length_9d52b : MethodName := ⟨RJ2, "length", "([B)I"⟩
abbrev cJ2_coderFromArrayLen_85cad : ByteArray := prog_26_method_15_code
def yJ2_coderFromArrayLen_85cad : MethodName := ⟨RJ2, "coderFromArrayLen", "([BI)B"⟩
abbrev cJ2_compress_39247 : ByteArray := prog_26_method_17_code
def yJ2_compress_39247 : MethodName := ⟨RJ2, "compress", "([BII)[B"⟩
abbrev cJ2_compress_5af95 : ByteArray := prog_26_method_22_code
def yJ2_compress_5af95 : MethodName := ⟨RJ2, "compress", "([BI[BII)I"⟩
abbrev cJ2_getChars_46870 : ByteArray := prog_26_method_77_code
def yJ2_getChars_46870 : MethodName := ⟨RJ2, "getChars", "(III[B)I"⟩
abbrev cJ2_putCharsAt_cd4e5 : ByteArray := prog_26_method_81_code
def yJ2_putCharsAt_cd4e5 : MethodName := ⟨RJ2, "putCharsAt", "([BICCCC)I"⟩
abbrev cJ2_charAt_3b067 : ByteArray := prog_26_method_83_code
def yJ2_charAt_3b067 : MethodName := ⟨RJ2, "charAt", "([BI)C"⟩
abbrev cJ2_inflate_0e8fd : ByteArray := prog_26_method_86_code
def yJ2_inflate_0e8fd : MethodName := ⟨RJ2, "inflate", "([BI[BII)V"⟩
abbrev cJ2_getChars_ba4f3 : ByteArray := prog_26_method_89_code
def yJ2_getChars_ba4f3 : MethodName := ⟨RJ2, "getChars", "(II[B)I"⟩
abbrev cJ2_checkIndex_2214a : ByteArray := prog_26_method_91_code
def yJ2_checkIndex_2214a : MethodName := ⟨RJ2, "checkIndex", "(I[B)V"⟩
abbrev cJ2_checkBoundsBeginEnd_d044e : ByteArray := prog_26_method_93_code
def yJ2_checkBoundsBeginEnd_d044e : MethodName := ⟨RJ2, "checkBoundsBeginEnd", "(II[B)V"⟩
abbrev cJ2_checkBoundsOffCount_d044e : ByteArray := prog_26_method_94_code
def yJ2_checkBoundsOffCount_d044e : MethodName := ⟨RJ2, "checkBoundsOffCount", "(II[B)V"⟩
def RJ10 : String := "java/lang/System"
def TJ10 : u_T := fun k => match k with
  | _ => ("", "", "", false)
def tyJ10 : Nat → FieldType := fun k => match k with
  | _ => .int
abbrev wsJ100 : List Cond := u_ws RJ10 TJ10 0
theorem nmJ10 : ∀ a, a < 0 → ∀ b, b < 0 → a ≠ b → (TJ10 a).2.1 ≠ (TJ10 b).2.1 := by decide +kernel
theorem tyJ10_ok : ∀ k, k < 0 → parseFieldDescriptor (TJ10 k).2.2.1 = some (tyJ10 k) := by decide +kernel
def RJxfd54e : String := "java/lang/constant/Constable"
def TJxfd54e : u_T := fun k => match k with
  | _ => ("", "", "", false)
def tyJxfd54e : Nat → FieldType := fun k => match k with
  | _ => .int
abbrev wsJxfd54e0 : List Cond := u_ws RJxfd54e TJxfd54e 0
theorem nmJxfd54e : ∀ a, a < 0 → ∀ b, b < 0 → a ≠ b → (TJxfd54e a).2.1 ≠ (TJxfd54e b).2.1 := by decide +kernel
theorem tyJxfd54e_ok : ∀ k, k < 0 → parseFieldDescriptor (TJxfd54e k).2.2.1 = some (tyJxfd54e k) := by decide +kernel
def RJx3cf43 : String := "java/lang/constant/ConstantDesc"
def TJx3cf43 : u_T := fun k => match k with
  | _ => ("", "", "", false)
def tyJx3cf43 : Nat → FieldType := fun k => match k with
  | _ => .int
abbrev wsJx3cf430 : List Cond := u_ws RJx3cf43 TJx3cf43 0
theorem nmJx3cf43 : ∀ a, a < 0 → ∀ b, b < 0 → a ≠ b → (TJx3cf43 a).2.1 ≠ (TJx3cf43 b).2.1 := by decide +kernel
theorem tyJx3cf43_ok : ∀ k, k < 0 → parseFieldDescriptor (TJx3cf43 k).2.2.1 = some (tyJx3cf43 k) := by decide +kernel
def RJ7 : String := "java/util/Arrays"
def TJ7 : u_T := fun k => match k with
  | _ => ("", "", "", false)
def tyJ7 : Nat → FieldType := fun k => match k with
  | _ => .int
abbrev wsJ70 : List Cond := u_ws RJ7 TJ7 0
theorem nmJ7 : ∀ a, a < 0 → ∀ b, b < 0 → a ≠ b → (TJ7 a).2.1 ≠ (TJ7 b).2.1 := by decide +kernel
theorem tyJ7_ok : ∀ k, k < 0 → parseFieldDescriptor (TJ7 k).2.2.1 = some (tyJ7 k) := by decide +kernel
abbrev cJ7_copyOf_9075b : ByteArray := prog_31_method_121_code
def yJ7_copyOf_9075b : MethodName := ⟨RJ7, "copyOf", "([BI)[B"⟩
abbrev cJ7_checkLength_df160 : ByteArray := prog_31_method_131_code
def yJ7_checkLength_df160 : MethodName := ⟨RJ7, "checkLength", "(II)V"⟩
abbrev cJ7_copyOfRange_39247 : ByteArray := prog_31_method_132_code
def yJ7_copyOfRange_39247 : MethodName := ⟨RJ7, "copyOfRange", "([BII)[B"⟩
abbrev cJ7_copyOfRangeByte_39247 : ByteArray := prog_31_method_133_code
def yJ7_copyOfRangeByte_39247 : MethodName := ⟨RJ7, "copyOfRangeByte", "([BII)[B"⟩
def RJ8 : String := "jdk/internal/util/ArraysSupport"
def TJ8 : u_T := fun k => match k with
  | _ => ("", "", "", false)
def tyJ8 : Nat → FieldType := fun k => match k with
  | _ => .int
abbrev wsJ80 : List Cond := u_ws RJ8 TJ8 0
theorem nmJ8 : ∀ a, a < 0 → ∀ b, b < 0 → a ≠ b → (TJ8 a).2.1 ≠ (TJ8 b).2.1 := by decide +kernel
theorem tyJ8_ok : ∀ k, k < 0 → parseFieldDescriptor (TJ8 k).2.2.1 = some (tyJ8 k) := by decide +kernel
abbrev cJ8_newLength_cabcc : ByteArray := prog_33_method_27_code
def yJ8_newLength_cabcc : MethodName := ⟨RJ8, "newLength", "(III)I"⟩
abbrev cJ8_hugeLength_7cf53 : ByteArray := prog_33_method_28_code
def yJ8_hugeLength_7cf53 : MethodName := ⟨RJ8, "hugeLength", "(II)I"⟩
def RJ3 : String := "jdk/internal/util/Preconditions"
def TJ3 : u_T := fun k => match k with
  | _ => ("", "", "", false)
def tyJ3 : Nat → FieldType := fun k => match k with
  | _ => .int
abbrev wsJ30 : List Cond := u_ws RJ3 TJ3 0
theorem nmJ3 : ∀ a, a < 0 → ∀ b, b < 0 → a ≠ b → (TJ3 a).2.1 ≠ (TJ3 b).2.1 := by decide +kernel
theorem tyJ3_ok : ∀ k, k < 0 → parseFieldDescriptor (TJ3 k).2.2.1 = some (tyJ3 k) := by decide +kernel
abbrev cJ3_checkIndex_8e157 : ByteArray := prog_34_method_11_code
def yJ3_checkIndex_8e157 : MethodName := ⟨RJ3, "checkIndex", "(IILjava/util/function/BiFunction;)I"⟩
abbrev cJ3_checkFromToIndex_8c36e : ByteArray := prog_34_method_12_code
def yJ3_checkFromToIndex_8c36e : MethodName := ⟨RJ3, "checkFromToIndex", "(IIILjava/util/function/BiFunction;)I"⟩
abbrev cJ3_checkFromIndexSize_8c36e : ByteArray := prog_34_method_13_code
def yJ3_checkFromIndexSize_8c36e : MethodName := ⟨RJ3, "checkFromIndexSize", "(IIILjava/util/function/BiFunction;)I"⟩
def RL : String := "WaterExchangeLaw"
abbrev cL_draw : ByteArray := method_2_code
def yL_draw : MethodName := ⟨RL, "draw", "([II)I"⟩
abbrev cL_law : ByteArray := code
def yL_law : MethodName := ⟨RL, "law", "([I)Z"⟩
abbrev cL_fits : ByteArray := method_4_code
def yL_fits : MethodName := ⟨RL, "fits", "(LWaterExchange;LWaterExchangeLaw$Made;II[IZ)Z"⟩
abbrev vwCl : List vw_C := [(RJ0, TJ0, 4), (RJ4, TJ4, 4), (RX0, TX0, 8), (RX1, TX1, 19), (RX2, TX2, 3), (RX3, TX3, 9), (RX4, TX4, 7), (RX5, TX5, 1)]
/-! ===== END printed: names ===== -/

