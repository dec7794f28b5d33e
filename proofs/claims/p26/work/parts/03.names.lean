/-! ===== END ===== -/

/-! ===== BEGIN printed: names, fields, word lists, decode rows ===== -/
def RX0 : String := "PreparedPlans$Comparison"
def TX0 : u_T := fun k => match k with
  | 0 => ("PreparedPlans$Comparison", "column", "I", true)
  | 1 => ("PreparedPlans$Comparison", "sign", "C", true)
  | 2 => ("PreparedPlans$Comparison", "kind", "I", true)
  | _ => ("PreparedPlans$Comparison", "operand", "I", true)
def tyX0 : Nat → FieldType := fun k => match k with
  | 0 => .int
  | 1 => .char
  | 2 => .int
  | _ => .int
abbrev wsX00 : List Cond := u_ws RX0 TX0 4
theorem nmX0 : ∀ a, a < 4 → ∀ b, b < 4 → a ≠ b → (TX0 a).2.1 ≠ (TX0 b).2.1 := by decide +kernel
theorem tyX0_ok : ∀ k, k < 4 → parseFieldDescriptor (TX0 k).2.2.1 = some (tyX0 k) := by decide +kernel
abbrev cX0_init : ByteArray := prog_2_method_1_code
def yX0_init : MethodName := ⟨RX0, "<init>", "(ICII)V"⟩
abbrev cX0_valueWith : ByteArray := prog_2_method_2_code
def yX0_valueWith : MethodName := ⟨RX0, "valueWith", "([I)I"⟩
abbrev cX0_matches : ByteArray := prog_2_method_3_code
def yX0_matches : MethodName := ⟨RX0, "matches", "(LPreparedPlans$Data;[I)J"⟩
abbrev cX0_holds : ByteArray := prog_2_method_4_code
def yX0_holds : MethodName := ⟨RX0, "holds", "(II)Z"⟩
abbrev cX0_addSargable : ByteArray := prog_2_method_5_code
def yX0_addSargable : MethodName := ⟨RX0, "addSargable", "(Ljava/util/ArrayList;)V"⟩
def RX1 : String := "PreparedPlans$Compound"
def TX1 : u_T := fun k => match k with
  | 0 => ("PreparedPlans$Compound", "kind", "I", true)
  | _ => ("PreparedPlans$Compound", "parts", "Ljava/util/ArrayList;", true)
def tyX1 : Nat → FieldType := fun k => match k with
  | 0 => .int
  | _ => .object "java/util/ArrayList"
abbrev wsX10 : List Cond := u_ws RX1 TX1 2
theorem nmX1 : ∀ a, a < 2 → ∀ b, b < 2 → a ≠ b → (TX1 a).2.1 ≠ (TX1 b).2.1 := by decide +kernel
theorem tyX1_ok : ∀ k, k < 2 → parseFieldDescriptor (TX1 k).2.2.1 = some (tyX1 k) := by decide +kernel
abbrev cX1_init : ByteArray := prog_3_method_1_code
def yX1_init : MethodName := ⟨RX1, "<init>", "(I)V"⟩
abbrev cX1_matches : ByteArray := prog_3_method_2_code
def yX1_matches : MethodName := ⟨RX1, "matches", "(LPreparedPlans$Data;[I)J"⟩
abbrev cX1_addSargable : ByteArray := prog_3_method_3_code
def yX1_addSargable : MethodName := ⟨RX1, "addSargable", "(Ljava/util/ArrayList;)V"⟩
def RX2 : String := "PreparedPlans$Condition"
def TX2 : u_T := fun k => match k with
  | _ => ("", "", "", false)
def tyX2 : Nat → FieldType := fun k => match k with
  | _ => .int
abbrev wsX20 : List Cond := u_ws RX2 TX2 0
theorem nmX2 : ∀ a, a < 0 → ∀ b, b < 0 → a ≠ b → (TX2 a).2.1 ≠ (TX2 b).2.1 := by decide +kernel
theorem tyX2_ok : ∀ k, k < 0 → parseFieldDescriptor (TX2 k).2.2.1 = some (tyX2 k) := by decide +kernel
abbrev cX2_init : ByteArray := prog_4_method_1_code
def yX2_init : MethodName := ⟨RX2, "<init>", "()V"⟩
def RX3 : String := "PreparedPlans$Data"
def TX3 : u_T := fun k => match k with
  | 0 => ("PreparedPlans$Data", "setup", "LPreparedPlans$Setup;", false)
  | 1 => ("PreparedPlans$Data", "rowCount", "I", false)
  | 2 => ("PreparedPlans$Data", "version", "I", false)
  | 3 => ("PreparedPlans$Data", "cells", "[I", true)
  | 4 => ("PreparedPlans$Data", "isIndexed", "[Z", true)
  | 5 => ("PreparedPlans$Data", "statistics", "LPreparedPlans$Statistics;", true)
  | _ => ("PreparedPlans$Data", "usages", "[LPreparedPlans$Usage;", true)
def tyX3 : Nat → FieldType := fun k => match k with
  | 0 => .object "PreparedPlans$Setup"
  | 1 => .int
  | 2 => .int
  | 3 => .array .int
  | 4 => .array .boolean
  | 5 => .object "PreparedPlans$Statistics"
  | _ => .array (.object "PreparedPlans$Usage")
abbrev wsX30 : List Cond := u_ws RX3 TX3 7
theorem nmX3 : ∀ a, a < 7 → ∀ b, b < 7 → a ≠ b → (TX3 a).2.1 ≠ (TX3 b).2.1 := by decide +kernel
theorem tyX3_ok : ∀ k, k < 7 → parseFieldDescriptor (TX3 k).2.2.1 = some (tyX3 k) := by decide +kernel
abbrev cX3_init : ByteArray := prog_5_method_1_code
def yX3_init : MethodName := ⟨RX3, "<init>", "(LPreparedPlans$Setup;)V"⟩
abbrev cX3_clear : ByteArray := prog_5_method_2_code
def yX3_clear : MethodName := ⟨RX3, "clear", "(LPreparedPlans$Setup;)V"⟩
abbrev cX3_copyFrom : ByteArray := prog_5_method_3_code
def yX3_copyFrom : MethodName := ⟨RX3, "copyFrom", "(LPreparedPlans$Data;)V"⟩
abbrev cX3_isCell : ByteArray := prog_5_method_4_code
def yX3_isCell : MethodName := ⟨RX3, "isCell", "(II)Z"⟩
abbrev cX3_cell : ByteArray := prog_5_method_5_code
def yX3_cell : MethodName := ⟨RX3, "cell", "(II)I"⟩
abbrev cX3_putCell : ByteArray := prog_5_method_6_code
def yX3_putCell : MethodName := ⟨RX3, "putCell", "(III)V"⟩
abbrev cX3_removeRow : ByteArray := prog_5_method_7_code
def yX3_removeRow : MethodName := ⟨RX3, "removeRow", "(I)V"⟩
abbrev cX3_allRows : ByteArray := prog_5_method_8_code
def yX3_allRows : MethodName := ⟨RX3, "allRows", "()J"⟩
abbrev cX3_takeStatistics : ByteArray := prog_5_method_9_code
def yX3_takeStatistics : MethodName := ⟨RX3, "takeStatistics", "()V"⟩
abbrev cX3_takeStatisticsOf : ByteArray := prog_5_method_10_code
def yX3_takeStatisticsOf : MethodName := ⟨RX3, "takeStatisticsOf", "(I)V"⟩
abbrev cX3_isFirst : ByteArray := prog_5_method_11_code
def yX3_isFirst : MethodName := ⟨RX3, "isFirst", "(II)Z"⟩
abbrev cX3_findRows : ByteArray := prog_5_method_12_code
def yX3_findRows : MethodName := ⟨RX3, "findRows", "(I[I)J"⟩
abbrev cX3_chosenFor : ByteArray := prog_5_method_13_code
def yX3_chosenFor : MethodName := ⟨RX3, "chosenFor", "(II[I)LPreparedPlans$Comparison;"⟩
abbrev cX3_costOf : ByteArray := prog_5_method_14_code
def yX3_costOf : MethodName := ⟨RX3, "costOf", "(II[I)I"⟩
abbrev cX3_bestPlan : ByteArray := prog_5_method_15_code
def yX3_bestPlan : MethodName := ⟨RX3, "bestPlan", "(I[I)I"⟩
abbrev cX3_choosePlan : ByteArray := prog_5_method_16_code
def yX3_choosePlan : MethodName := ⟨RX3, "choosePlan", "(I[I)I"⟩
abbrev cX3_execute : ByteArray := prog_5_method_17_code
def yX3_execute : MethodName := ⟨RX3, "execute", "(I[I)V"⟩
def RX4 : String := "PreparedPlans$Prepared"
def TX4 : u_T := fun k => match k with
  | 0 => ("PreparedPlans$Prepared", "name", "J", true)
  | 1 => ("PreparedPlans$Prepared", "condition", "LPreparedPlans$Condition;", true)
  | 2 => ("PreparedPlans$Prepared", "holeTypes", "[I", true)
  | _ => ("PreparedPlans$Prepared", "sargable", "Ljava/util/ArrayList;", true)
def tyX4 : Nat → FieldType := fun k => match k with
  | 0 => .long
  | 1 => .object "PreparedPlans$Condition"
  | 2 => .array .int
  | _ => .object "java/util/ArrayList"
abbrev wsX40 : List Cond := u_ws RX4 TX4 4
theorem nmX4 : ∀ a, a < 4 → ∀ b, b < 4 → a ≠ b → (TX4 a).2.1 ≠ (TX4 b).2.1 := by decide +kernel
theorem tyX4_ok : ∀ k, k < 4 → parseFieldDescriptor (TX4 k).2.2.1 = some (tyX4 k) := by decide +kernel
abbrev cX4_init : ByteArray := prog_6_method_1_code
def yX4_init : MethodName := ⟨RX4, "<init>", "(JLPreparedPlans$Condition;[I)V"⟩
def RX5 : String := "PreparedPlans$Setup"
def TX5 : u_T := fun k => match k with
  | 0 => ("PreparedPlans$Setup", "columnCount", "I", false)
  | 1 => ("PreparedPlans$Setup", "columnNames", "[J", true)
  | 2 => ("PreparedPlans$Setup", "columnTypes", "[I", true)
  | 3 => ("PreparedPlans$Setup", "statements", "Ljava/util/ArrayList;", true)
  | 4 => ("PreparedPlans$Setup", "scan", "I", false)
  | 5 => ("PreparedPlans$Setup", "probe", "I", false)
  | 6 => ("PreparedPlans$Setup", "fetch", "I", false)
  | _ => ("PreparedPlans$Setup", "tries", "I", false)
def tyX5 : Nat → FieldType := fun k => match k with
  | 0 => .int
  | 1 => .array .long
  | 2 => .array .int
  | 3 => .object "java/util/ArrayList"
  | 4 => .int
  | 5 => .int
  | 6 => .int
  | _ => .int
abbrev wsX50 : List Cond := u_ws RX5 TX5 8
theorem nmX5 : ∀ a, a < 8 → ∀ b, b < 8 → a ≠ b → (TX5 a).2.1 ≠ (TX5 b).2.1 := by decide +kernel
theorem tyX5_ok : ∀ k, k < 8 → parseFieldDescriptor (TX5 k).2.2.1 = some (tyX5 k) := by decide +kernel
abbrev cX5_init : ByteArray := prog_7_method_1_code
def yX5_init : MethodName := ⟨RX5, "<init>", "()V"⟩
abbrev cX5_addColumn : ByteArray := prog_7_method_2_code
def yX5_addColumn : MethodName := ⟨RX5, "addColumn", "(JI)V"⟩
abbrev cX5_typeOf : ByteArray := prog_7_method_3_code
def yX5_typeOf : MethodName := ⟨RX5, "typeOf", "(I)I"⟩
abbrev cX5_findColumn : ByteArray := prog_7_method_4_code
def yX5_findColumn : MethodName := ⟨RX5, "findColumn", "(J)I"⟩
abbrev cX5_findStatement : ByteArray := prog_7_method_5_code
def yX5_findStatement : MethodName := ⟨RX5, "findStatement", "(J)I"⟩
def RX6 : String := "PreparedPlans$SetupReader"
def TX6 : u_T := fun k => match k with
  | 0 => ("PreparedPlans$SetupReader", "tokens", "LPreparedPlans$Tokens;", true)
  | 1 => ("PreparedPlans$SetupReader", "data", "LPreparedPlans$Data;", true)
  | 2 => ("PreparedPlans$SetupReader", "setup", "LPreparedPlans$Setup;", true)
  | 3 => ("PreparedPlans$SetupReader", "holeTypes", "[I", false)
  | 4 => ("PreparedPlans$SetupReader", "error", "I", false)
  | _ => ("PreparedPlans$SetupReader", "errorAt", "I", false)
def tyX6 : Nat → FieldType := fun k => match k with
  | 0 => .object "PreparedPlans$Tokens"
  | 1 => .object "PreparedPlans$Data"
  | 2 => .object "PreparedPlans$Setup"
  | 3 => .array .int
  | 4 => .int
  | _ => .int
abbrev wsX60 : List Cond := u_ws RX6 TX6 6
theorem nmX6 : ∀ a, a < 6 → ∀ b, b < 6 → a ≠ b → (TX6 a).2.1 ≠ (TX6 b).2.1 := by decide +kernel
theorem tyX6_ok : ∀ k, k < 6 → parseFieldDescriptor (TX6 k).2.2.1 = some (tyX6 k) := by decide +kernel
abbrev cX6_init : ByteArray := prog_8_method_1_code
def yX6_init : MethodName := ⟨RX6, "<init>", "(LPreparedPlans$Tokens;LPreparedPlans$Data;)V"⟩
abbrev cX6_readSetup : ByteArray := prog_8_method_2_code
def yX6_readSetup : MethodName := ⟨RX6, "readSetup", "()V"⟩
abbrev cX6_fail : ByteArray := prog_8_method_3_code
def yX6_fail : MethodName := ⟨RX6, "fail", "(II)V"⟩
abbrev cX6_expectWord : ByteArray := prog_8_method_4_code
def yX6_expectWord : MethodName := ⟨RX6, "expectWord", "(Ljava/lang/String;)V"⟩
abbrev cX6_expectByte : ByteArray := prog_8_method_5_code
def yX6_expectByte : MethodName := ⟨RX6, "expectByte", "(C)V"⟩
abbrev cX6_takeNumber : ByteArray := prog_8_method_6_code
def yX6_takeNumber : MethodName := ⟨RX6, "takeNumber", "(I)I"⟩
abbrev cX6_takeName : ByteArray := prog_8_method_7_code
def yX6_takeName : MethodName := ⟨RX6, "takeName", "()J"⟩
abbrev cX6_takeColumn : ByteArray := prog_8_method_8_code
def yX6_takeColumn : MethodName := ⟨RX6, "takeColumn", "()I"⟩
abbrev cX6_readColumn : ByteArray := prog_8_method_9_code
def yX6_readColumn : MethodName := ⟨RX6, "readColumn", "()V"⟩
abbrev cX6_takeType : ByteArray := prog_8_method_10_code
def yX6_takeType : MethodName := ⟨RX6, "takeType", "()I"⟩
abbrev cX6_readIndex : ByteArray := prog_8_method_11_code
def yX6_readIndex : MethodName := ⟨RX6, "readIndex", "()V"⟩
abbrev cX6_readRow : ByteArray := prog_8_method_12_code
def yX6_readRow : MethodName := ⟨RX6, "readRow", "()V"⟩
abbrev cX6_readPrepare : ByteArray := prog_8_method_13_code
def yX6_readPrepare : MethodName := ⟨RX6, "readPrepare", "()V"⟩
abbrev cX6_readCost : ByteArray := prog_8_method_14_code
def yX6_readCost : MethodName := ⟨RX6, "readCost", "()V"⟩
abbrev cX6_readTries : ByteArray := prog_8_method_15_code
def yX6_readTries : MethodName := ⟨RX6, "readTries", "()V"⟩
abbrev cX6_readCondition : ByteArray := prog_8_method_16_code
def yX6_readCondition : MethodName := ⟨RX6, "readCondition", "(I)LPreparedPlans$Condition;"⟩
abbrev cX6_readFactor : ByteArray := prog_8_method_17_code
def yX6_readFactor : MethodName := ⟨RX6, "readFactor", "(I)LPreparedPlans$Condition;"⟩
abbrev cX6_readNested : ByteArray := prog_8_method_18_code
def yX6_readNested : MethodName := ⟨RX6, "readNested", "(I)LPreparedPlans$Condition;"⟩
abbrev cX6_takeSign : ByteArray := prog_8_method_19_code
def yX6_takeSign : MethodName := ⟨RX6, "takeSign", "()C"⟩
abbrev cX6_takeHole : ByteArray := prog_8_method_20_code
def yX6_takeHole : MethodName := ⟨RX6, "takeHole", "(I)I"⟩
def RX7 : String := "PreparedPlans$Statistics"
def TX7 : u_T := fun k => match k with
  | 0 => ("PreparedPlans$Statistics", "rowCount", "I", false)
  | 1 => ("PreparedPlans$Statistics", "different", "[I", true)
  | 2 => ("PreparedPlans$Statistics", "least", "[I", true)
  | _ => ("PreparedPlans$Statistics", "greatest", "[I", true)
def tyX7 : Nat → FieldType := fun k => match k with
  | 0 => .int
  | 1 => .array .int
  | 2 => .array .int
  | _ => .array .int
abbrev wsX70 : List Cond := u_ws RX7 TX7 4
theorem nmX7 : ∀ a, a < 4 → ∀ b, b < 4 → a ≠ b → (TX7 a).2.1 ≠ (TX7 b).2.1 := by decide +kernel
theorem tyX7_ok : ∀ k, k < 4 → parseFieldDescriptor (TX7 k).2.2.1 = some (tyX7 k) := by decide +kernel
abbrev cX7_init : ByteArray := prog_9_method_1_code
def yX7_init : MethodName := ⟨RX7, "<init>", "()V"⟩
abbrev cX7_copyFrom : ByteArray := prog_9_method_2_code
def yX7_copyFrom : MethodName := ⟨RX7, "copyFrom", "(LPreparedPlans$Statistics;)V"⟩
abbrev cX7_estimate : ByteArray := prog_9_method_3_code
def yX7_estimate : MethodName := ⟨RX7, "estimate", "(LPreparedPlans$Comparison;[I)I"⟩
abbrev cX7_estimateEqual : ByteArray := prog_9_method_4_code
def yX7_estimateEqual : MethodName := ⟨RX7, "estimateEqual", "(II)I"⟩
def RX8 : String := "PreparedPlans$Tokens"
def TX8 : u_T := fun k => match k with
  | 0 => ("PreparedPlans$Tokens", "kinds", "[I", true)
  | 1 => ("PreparedPlans$Tokens", "starts", "[I", true)
  | 2 => ("PreparedPlans$Tokens", "values", "[J", true)
  | 3 => ("PreparedPlans$Tokens", "count", "I", false)
  | 4 => ("PreparedPlans$Tokens", "next", "I", false)
  | 5 => ("PreparedPlans$Tokens", "kind", "I", false)
  | 6 => ("PreparedPlans$Tokens", "start", "I", false)
  | _ => ("PreparedPlans$Tokens", "value", "J", false)
def tyX8 : Nat → FieldType := fun k => match k with
  | 0 => .array .int
  | 1 => .array .int
  | 2 => .array .long
  | 3 => .int
  | 4 => .int
  | 5 => .int
  | 6 => .int
  | _ => .long
abbrev wsX80 : List Cond := u_ws RX8 TX8 8
theorem nmX8 : ∀ a, a < 8 → ∀ b, b < 8 → a ≠ b → (TX8 a).2.1 ≠ (TX8 b).2.1 := by decide +kernel
theorem tyX8_ok : ∀ k, k < 8 → parseFieldDescriptor (TX8 k).2.2.1 = some (tyX8 k) := by decide +kernel
abbrev cX8_init : ByteArray := prog_10_method_1_code
def yX8_init : MethodName := ⟨RX8, "<init>", "()V"⟩
abbrev cX8_split : ByteArray := prog_10_method_2_code
def yX8_split : MethodName := ⟨RX8, "split", "([BI)V"⟩
abbrev cX8_add : ByteArray := prog_10_method_3_code
def yX8_add : MethodName := ⟨RX8, "add", "(IIJ)V"⟩
abbrev cX8_addWord : ByteArray := prog_10_method_4_code
def yX8_addWord : MethodName := ⟨RX8, "addWord", "([BII)I"⟩
abbrev cX8_kindOf : ByteArray := prog_10_method_5_code
def yX8_kindOf : MethodName := ⟨RX8, "kindOf", "(J)I"⟩
abbrev cX8_addNumber : ByteArray := prog_10_method_6_code
def yX8_addNumber : MethodName := ⟨RX8, "addNumber", "([BII)I"⟩
abbrev cX8_advance : ByteArray := prog_10_method_7_code
def yX8_advance : MethodName := ⟨RX8, "advance", "()V"⟩
abbrev cX8_isWord : ByteArray := prog_10_method_8_code
def yX8_isWord : MethodName := ⟨RX8, "isWord", "(Ljava/lang/String;)Z"⟩
def RX9 : String := "PreparedPlans$Usage"
def TX9 : u_T := fun k => match k with
  | 0 => ("PreparedPlans$Usage", "runs", "I", false)
  | 1 => ("PreparedPlans$Usage", "specialRuns", "I", false)
  | 2 => ("PreparedPlans$Usage", "specialCosts", "I", false)
  | 3 => ("PreparedPlans$Usage", "genericsMade", "I", false)
  | 4 => ("PreparedPlans$Usage", "keptPlan", "I", false)
  | 5 => ("PreparedPlans$Usage", "keptCost", "I", false)
  | 6 => ("PreparedPlans$Usage", "keptVersion", "I", false)
  | 7 => ("PreparedPlans$Usage", "touched", "I", false)
  | _ => ("PreparedPlans$Usage", "percentages", "[I", true)
def tyX9 : Nat → FieldType := fun k => match k with
  | 0 => .int
  | 1 => .int
  | 2 => .int
  | 3 => .int
  | 4 => .int
  | 5 => .int
  | 6 => .int
  | 7 => .int
  | _ => .array .int
abbrev wsX90 : List Cond := u_ws RX9 TX9 9
theorem nmX9 : ∀ a, a < 9 → ∀ b, b < 9 → a ≠ b → (TX9 a).2.1 ≠ (TX9 b).2.1 := by decide +kernel
theorem tyX9_ok : ∀ k, k < 9 → parseFieldDescriptor (TX9 k).2.2.1 = some (tyX9 k) := by decide +kernel
abbrev cX9_init : ByteArray := prog_11_method_1_code
def yX9_init : MethodName := ⟨RX9, "<init>", "()V"⟩
abbrev cX9_clear : ByteArray := prog_11_method_2_code
def yX9_clear : MethodName := ⟨RX9, "clear", "()V"⟩
abbrev cX9_copyFrom : ByteArray := prog_11_method_3_code
def yX9_copyFrom : MethodName := ⟨RX9, "copyFrom", "(LPreparedPlans$Usage;)V"⟩
abbrev cX9_keepsFreshPlan : ByteArray := prog_11_method_4_code
def yX9_keepsFreshPlan : MethodName := ⟨RX9, "keepsFreshPlan", "(I)Z"⟩
abbrev cX9_prefersKeptPlan : ByteArray := prog_11_method_5_code
def yX9_prefersKeptPlan : MethodName := ⟨RX9, "prefersKeptPlan", "()Z"⟩
abbrev cX9_keep : ByteArray := prog_11_method_6_code
def yX9_keep : MethodName := ⟨RX9, "keep", "(III)V"⟩
abbrev cX9_learn : ByteArray := prog_11_method_7_code
def yX9_learn : MethodName := ⟨RX9, "learn", "(III)V"⟩
def RX10 : String := "PreparedPlans"
def TX10 : u_T := fun k => match k with
  | 0 => ("PreparedPlans", "buffer", "[B", true)
  | 1 => ("PreparedPlans", "bufferLength", "I", false)
  | 2 => ("PreparedPlans", "latestErrorOffset", "I", false)
  | 3 => ("PreparedPlans", "tokens", "LPreparedPlans$Tokens;", true)
  | 4 => ("PreparedPlans", "slots", "[LPreparedPlans$Data;", true)
  | 5 => ("PreparedPlans", "currentSlot", "I", false)
  | _ => ("PreparedPlans", "undoable", "I", false)
def tyX10 : Nat → FieldType := fun k => match k with
  | 0 => .array .byte
  | 1 => .int
  | 2 => .int
  | 3 => .object "PreparedPlans$Tokens"
  | 4 => .array (.object "PreparedPlans$Data")
  | 5 => .int
  | _ => .int
abbrev wsX100 : List Cond := u_ws RX10 TX10 7
theorem nmX10 : ∀ a, a < 7 → ∀ b, b < 7 → a ≠ b → (TX10 a).2.1 ≠ (TX10 b).2.1 := by decide +kernel
theorem tyX10_ok : ∀ k, k < 7 → parseFieldDescriptor (TX10 k).2.2.1 = some (tyX10 k) := by decide +kernel
abbrev cX10_init : ByteArray := prog_1_method_1_code
def yX10_init : MethodName := ⟨RX10, "<init>", "()V"⟩
abbrev cX10_append : ByteArray := prog_1_method_2_code
def yX10_append : MethodName := ⟨RX10, "append", "(IIIII)I"⟩
abbrev cX10_load : ByteArray := prog_1_method_3_code
def yX10_load : MethodName := ⟨RX10, "load", "(I)I"⟩
abbrev cX10_count : ByteArray := prog_1_method_5_code
def yX10_count : MethodName := ⟨RX10, "count", "(I)I"⟩
abbrev cX10_column : ByteArray := prog_1_method_6_code
def yX10_column : MethodName := ⟨RX10, "column", "(II)I"⟩
abbrev cX10_hole : ByteArray := prog_1_method_9_code
def yX10_hole : MethodName := ⟨RX10, "hole", "(II)I"⟩
abbrev cX10_statement : ByteArray := prog_1_method_10_code
def yX10_statement : MethodName := ⟨RX10, "statement", "(II)I"⟩
abbrev cX10_learned : ByteArray := prog_1_method_11_code
def yX10_learned : MethodName := ⟨RX10, "learned", "(II)I"⟩
abbrev cX10_kept : ByteArray := prog_1_method_12_code
def yX10_kept : MethodName := ⟨RX10, "kept", "(I)I"⟩
abbrev cX10_genericCost : ByteArray := prog_1_method_13_code
def yX10_genericCost : MethodName := ⟨RX10, "genericCost", "(II)I"⟩
abbrev cX10_special : ByteArray := prog_1_method_14_code
def yX10_special : MethodName := ⟨RX10, "special", "(IIIII)I"⟩
abbrev cX10_specialCost : ByteArray := prog_1_method_15_code
def yX10_specialCost : MethodName := ⟨RX10, "specialCost", "(IIIIII)I"⟩
abbrev cX10_wouldUse : ByteArray := prog_1_method_16_code
def yX10_wouldUse : MethodName := ⟨RX10, "wouldUse", "(IIIII)I"⟩
abbrev cX10_rows : ByteArray := prog_1_method_17_code
def yX10_rows : MethodName := ⟨RX10, "rows", "(IIIII)J"⟩
abbrev cX10_run : ByteArray := prog_1_method_18_code
def yX10_run : MethodName := ⟨RX10, "run", "(IIIII)I"⟩
abbrev cX10_insert : ByteArray := prog_1_method_19_code
def yX10_insert : MethodName := ⟨RX10, "insert", "(IIIII)I"⟩
abbrev cX10_delete : ByteArray := prog_1_method_20_code
def yX10_delete : MethodName := ⟨RX10, "delete", "(I)I"⟩
abbrev cX10_analyze : ByteArray := prog_1_method_22_code
def yX10_analyze : MethodName := ⟨RX10, "analyze", "()I"⟩
abbrev cX10_appendWord : ByteArray := prog_1_method_26_code
def yX10_appendWord : MethodName := ⟨RX10, "appendWord", "(I)V"⟩
abbrev cX10_current : ByteArray := prog_1_method_27_code
def yX10_current : MethodName := ⟨RX10, "current", "()LPreparedPlans$Data;"⟩
abbrev cX10_spareSlot : ByteArray := prog_1_method_28_code
def yX10_spareSlot : MethodName := ⟨RX10, "spareSlot", "()I"⟩
abbrev cX10_spareCopy : ByteArray := prog_1_method_29_code
def yX10_spareCopy : MethodName := ⟨RX10, "spareCopy", "()LPreparedPlans$Data;"⟩
abbrev cX10_takeSpare : ByteArray := prog_1_method_30_code
def yX10_takeSpare : MethodName := ⟨RX10, "takeSpare", "()V"⟩
abbrev cX10_checkLength : ByteArray := prog_1_method_31_code
def yX10_checkLength : MethodName := ⟨RX10, "checkLength", "(I)V"⟩
abbrev cX10_checkColumn : ByteArray := prog_1_method_32_code
def yX10_checkColumn : MethodName := ⟨RX10, "checkColumn", "(I)V"⟩
abbrev cX10_checkRow : ByteArray := prog_1_method_33_code
def yX10_checkRow : MethodName := ⟨RX10, "checkRow", "(I)V"⟩
abbrev cX10_checkStatement : ByteArray := prog_1_method_34_code
def yX10_checkStatement : MethodName := ⟨RX10, "checkStatement", "(I)V"⟩
abbrev cX10_checkPlan : ByteArray := prog_1_method_35_code
def yX10_checkPlan : MethodName := ⟨RX10, "checkPlan", "(I)V"⟩
abbrev cX10_checkRange : ByteArray := prog_1_method_36_code
def yX10_checkRange : MethodName := ⟨RX10, "checkRange", "(II)V"⟩
abbrev cX10_checkedValues : ByteArray := prog_1_method_37_code
def yX10_checkedValues : MethodName := ⟨RX10, "checkedValues", "(IIIII)[I"⟩
abbrev cX10_greatestOf : ByteArray := prog_1_method_38_code
def yX10_greatestOf : MethodName := ⟨RX10, "greatestOf", "(I)I"⟩
abbrev cX10_nameIn : ByteArray := prog_1_method_39_code
def yX10_nameIn : MethodName := ⟨RX10, "nameIn", "([BII)J"⟩
abbrev cX10_nameOf : ByteArray := prog_1_method_40_code
def yX10_nameOf : MethodName := ⟨RX10, "nameOf", "(Ljava/lang/String;)J"⟩
abbrev cX10_isLetter : ByteArray := prog_1_method_41_code
def yX10_isLetter : MethodName := ⟨RX10, "isLetter", "(B)Z"⟩
abbrev cX10_isDigit : ByteArray := prog_1_method_42_code
def yX10_isDigit : MethodName := ⟨RX10, "isDigit", "(B)Z"⟩
def RX11 : String := "PreparedPlansModel"
def TX11 : u_T := fun k => match k with
  | _ => ("", "", "", false)
def tyX11 : Nat → FieldType := fun k => match k with
  | _ => .int
abbrev wsX110 : List Cond := u_ws RX11 TX11 0
theorem nmX11 : ∀ a, a < 0 → ∀ b, b < 0 → a ≠ b → (TX11 a).2.1 ≠ (TX11 b).2.1 := by decide +kernel
theorem tyX11_ok : ∀ k, k < 0 → parseFieldDescriptor (TX11 k).2.2.1 = some (tyX11 k) := by decide +kernel
def RJx145de : String := "java/io/Serializable"
def TJx145de : u_T := fun k => match k with
  | _ => ("", "", "", false)
def tyJx145de : Nat → FieldType := fun k => match k with
  | _ => .int
abbrev wsJx145de0 : List Cond := u_ws RJx145de TJx145de 0
theorem nmJx145de : ∀ a, a < 0 → ∀ b, b < 0 → a ≠ b → (TJx145de a).2.1 ≠ (TJx145de b).2.1 := by decide +kernel
theorem tyJx145de_ok : ∀ k, k < 0 → parseFieldDescriptor (TJx145de k).2.2.1 = some (tyJx145de k) := by decide +kernel
def RJ5 : String := "java/lang/AbstractStringBuilder"
def TJ5 : u_T := fun k => match k with
  | _ => ("", "", "", false)
def tyJ5 : Nat → FieldType := fun k => match k with
  | _ => .int
abbrev wsJ50 : List Cond := u_ws RJ5 TJ5 0
theorem nmJ5 : ∀ a, a < 0 → ∀ b, b < 0 → a ≠ b → (TJ5 a).2.1 ≠ (TJ5 b).2.1 := by decide +kernel
theorem tyJ5_ok : ∀ k, k < 0 → parseFieldDescriptor (TJ5 k).2.2.1 = some (tyJ5 k) := by decide +kernel
abbrev cJ5_init_a7421 : ByteArray := prog_15_method_3_code
def yJ5_init_a7421 : MethodName := ⟨RJ5, "<init>", "(Ljava/lang/String;)V"⟩
abbrev cJ5_length_8abf5 : ByteArray := prog_15_method_6_code
def yJ5_length_8abf5 : MethodName := ⟨RJ5, "length", "()I"⟩
abbrev cJ5_ensureCapacityInternal_d00df : ByteArray := prog_15_method_9_code
def yJ5_ensureCapacityInternal_d00df : MethodName := ⟨RJ5, "ensureCapacityInternal", "(I)V"⟩
abbrev cJ5_newCapacity_0f7a4 : ByteArray := prog_15_method_10_code
def yJ5_newCapacity_0f7a4 : MethodName := ⟨RJ5, "newCapacity", "(I)I"⟩
abbrev cJ5_inflate_da8c8 : ByteArray := prog_15_method_11_code
def yJ5_inflate_da8c8 : MethodName := ⟨RJ5, "inflate", "()V"⟩
abbrev cJ5_append_cf1ce : ByteArray := prog_15_method_22_code
def yJ5_append_cf1ce : MethodName := ⟨RJ5, "append", "(Ljava/lang/String;)Ljava/lang/AbstractStringBuilder;"⟩
abbrev cJ5_appendNull_278bc : ByteArray := prog_15_method_26_code
def yJ5_appendNull_278bc : MethodName := ⟨RJ5, "appendNull", "()Ljava/lang/AbstractStringBuilder;"⟩
abbrev cJ5_append_3fe6f : ByteArray := prog_15_method_31_code
def yJ5_append_3fe6f : MethodName := ⟨RJ5, "append", "(C)Ljava/lang/AbstractStringBuilder;"⟩
abbrev cJ5_append_c97b9 : ByteArray := prog_15_method_32_code
def yJ5_append_c97b9 : MethodName := ⟨RJ5, "append", "(I)Ljava/lang/AbstractStringBuilder;"⟩
abbrev cJ5_getValue_6d5f1 : ByteArray := prog_15_method_64_code
def yJ5_getValue_6d5f1 : MethodName := ⟨RJ5, "getValue", "()[B"⟩
abbrev cJ5_isLatin1_aae02 : ByteArray := prog_15_method_68_code
def yJ5_isLatin1_aae02 : MethodName := ⟨RJ5, "isLatin1", "()Z"⟩
abbrev cJ5_inflateIfNeededFor_a7421 : ByteArray := prog_15_method_71_code
def yJ5_inflateIfNeededFor_a7421 : MethodName := ⟨RJ5, "inflateIfNeededFor", "(Ljava/lang/String;)V"⟩
abbrev cJ5_putStringAt_47b60 : ByteArray := prog_15_method_73_code
def yJ5_putStringAt_47b60 : MethodName := ⟨RJ5, "putStringAt", "(ILjava/lang/String;)V"⟩
def RJx2cfe8 : String := "java/lang/Appendable"
def TJx2cfe8 : u_T := fun k => match k with
  | _ => ("", "", "", false)
def tyJx2cfe8 : Nat → FieldType := fun k => match k with
  | _ => .int
abbrev wsJx2cfe80 : List Cond := u_ws RJx2cfe8 TJx2cfe8 0
theorem nmJx2cfe8 : ∀ a, a < 0 → ∀ b, b < 0 → a ≠ b → (TJx2cfe8 a).2.1 ≠ (TJx2cfe8 b).2.1 := by decide +kernel
theorem tyJx2cfe8_ok : ∀ k, k < 0 → parseFieldDescriptor (TJx2cfe8 k).2.2.1 = some (tyJx2cfe8 k) := by decide +kernel
def RJx9f9b0 : String := "java/lang/CharSequence"
def TJx9f9b0 : u_T := fun k => match k with
  | _ => ("", "", "", false)
def tyJx9f9b0 : Nat → FieldType := fun k => match k with
  | _ => .int
abbrev wsJx9f9b00 : List Cond := u_ws RJx9f9b0 TJx9f9b0 0
theorem nmJx9f9b0 : ∀ a, a < 0 → ∀ b, b < 0 → a ≠ b → (TJx9f9b0 a).2.1 ≠ (TJx9f9b0 b).2.1 := by decide +kernel
theorem tyJx9f9b0_ok : ∀ k, k < 0 → parseFieldDescriptor (TJx9f9b0 k).2.2.1 = some (tyJx9f9b0 k) := by decide +kernel
def RJx8e188 : String := "java/lang/Cloneable"
def TJx8e188 : u_T := fun k => match k with
  | _ => ("", "", "", false)
def tyJx8e188 : Nat → FieldType := fun k => match k with
  | _ => .int
abbrev wsJx8e1880 : List Cond := u_ws RJx8e188 TJx8e188 0
theorem nmJx8e188 : ∀ a, a < 0 → ∀ b, b < 0 → a ≠ b → (TJx8e188 a).2.1 ≠ (TJx8e188 b).2.1 := by decide +kernel
theorem tyJx8e188_ok : ∀ k, k < 0 → parseFieldDescriptor (TJx8e188 k).2.2.1 = some (tyJx8e188 k) := by decide +kernel
def RJxb160c : String := "java/lang/Comparable"
def TJxb160c : u_T := fun k => match k with
  | _ => ("", "", "", false)
def tyJxb160c : Nat → FieldType := fun k => match k with
  | _ => .int
abbrev wsJxb160c0 : List Cond := u_ws RJxb160c TJxb160c 0
theorem nmJxb160c : ∀ a, a < 0 → ∀ b, b < 0 → a ≠ b → (TJxb160c a).2.1 ≠ (TJxb160c b).2.1 := by decide +kernel
theorem tyJxb160c_ok : ∀ k, k < 0 → parseFieldDescriptor (TJxb160c k).2.2.1 = some (tyJxb160c k) := by decide +kernel
def RJ6 : String := "java/lang/Integer"
def TJ6 : u_T := fun k => match k with
  | _ => ("", "", "", false)
def tyJ6 : Nat → FieldType := fun k => match k with
  | _ => .int
abbrev wsJ60 : List Cond := u_ws RJ6 TJ6 0
theorem nmJ6 : ∀ a, a < 0 → ∀ b, b < 0 → a ≠ b → (TJ6 a).2.1 ≠ (TJ6 b).2.1 := by decide +kernel
theorem tyJ6_ok : ∀ k, k < 0 → parseFieldDescriptor (TJ6 k).2.2.1 = some (tyJ6 k) := by decide +kernel
abbrev cJ6_getChars_ba4f3 : ByteArray := prog_24_method_12_code
def yJ6_getChars_ba4f3 : MethodName := ⟨RJ6, "getChars", "(II[B)I"⟩
abbrev cJ6_stringSize_0f7a4 : ByteArray := prog_24_method_13_code
def yJ6_stringSize_0f7a4 : MethodName := ⟨RJ6, "stringSize", "(I)I"⟩
def RJxab1ab : String := "java/lang/Iterable"
def TJxab1ab : u_T := fun k => match k with
  | _ => ("", "", "", false)
def tyJxab1ab : Nat → FieldType := fun k => match k with
  | _ => .int
abbrev wsJxab1ab0 : List Cond := u_ws RJxab1ab TJxab1ab 0
theorem nmJxab1ab : ∀ a, a < 0 → ∀ b, b < 0 → a ≠ b → (TJxab1ab a).2.1 ≠ (TJxab1ab b).2.1 := by decide +kernel
theorem tyJxab1ab_ok : ∀ k, k < 0 → parseFieldDescriptor (TJxab1ab k).2.2.1 = some (tyJxab1ab k) := by decide +kernel
def RJ13 : String := "java/lang/Long"
def TJ13 : u_T := fun k => match k with
  | _ => ("", "", "", false)
def tyJ13 : Nat → FieldType := fun k => match k with
  | _ => .int
abbrev wsJ130 : List Cond := u_ws RJ13 TJ13 0
theorem nmJ13 : ∀ a, a < 0 → ∀ b, b < 0 → a ≠ b → (TJ13 a).2.1 ≠ (TJ13 b).2.1 := by decide +kernel
theorem tyJ13_ok : ∀ k, k < 0 → parseFieldDescriptor (TJ13 k).2.2.1 = some (tyJ13 k) := by decide +kernel
abbrev cJ13_bitCount_95d88 : ByteArray := prog_26_method_50_code
def yJ13_bitCount_95d88 : MethodName := ⟨RJ13, "bitCount", "(J)I"⟩
def RJ9 : String := "java/lang/Math"
def TJ9 : u_T := fun k => match k with
  | _ => ("", "", "", false)
def tyJ9 : Nat → FieldType := fun k => match k with
  | _ => .int
abbrev wsJ90 : List Cond := u_ws RJ9 TJ9 0
theorem nmJ9 : ∀ a, a < 0 → ∀ b, b < 0 → a ≠ b → (TJ9 a).2.1 ≠ (TJ9 b).2.1 := by decide +kernel
theorem tyJ9_ok : ∀ k, k < 0 → parseFieldDescriptor (TJ9 k).2.2.1 = some (tyJ9 k) := by decide +kernel
abbrev cJ9_max_7cf53 : ByteArray := prog_27_method_65_code
def yJ9_max_7cf53 : MethodName := ⟨RJ9, "max", "(II)I"⟩
abbrev cJ9_min_7cf53 : ByteArray := prog_27_method_69_code
def yJ9_min_7cf53 : MethodName := ⟨RJ9, "min", "(II)I"⟩
def RJxd2413 : String := "java/lang/Number"
def TJxd2413 : u_T := fun k => match k with
  | _ => ("", "", "", false)
def tyJxd2413 : Nat → FieldType := fun k => match k with
  | _ => .int
abbrev wsJxd24130 : List Cond := u_ws RJxd2413 TJxd2413 0
theorem nmJxd2413 : ∀ a, a < 0 → ∀ b, b < 0 → a ≠ b → (TJxd2413 a).2.1 ≠ (TJxd2413 b).2.1 := by decide +kernel
theorem tyJxd2413_ok : ∀ k, k < 0 → parseFieldDescriptor (TJxd2413 k).2.2.1 = some (tyJxd2413 k) := by decide +kernel
def RJ0 : String := "java/lang/String"
def TJ0 : u_T := fun k => match k with
  | 0 => ("java/lang/String", "value", "[B", true)
  | 1 => ("java/lang/String", "coder", "B", true)
  | 2 => ("java/lang/String", "hash", "I", false)
  | _ => ("java/lang/String", "hashIsZero", "Z", false)
def tyJ0 : Nat → FieldType := fun k => match k with
  | 0 => .array .byte
  | 1 => .byte
  | 2 => .int
  | _ => .boolean
abbrev wsJ00 : List Cond := u_ws RJ0 TJ0 4
theorem nmJ0 : ∀ a, a < 4 → ∀ b, b < 4 → a ≠ b → (TJ0 a).2.1 ≠ (TJ0 b).2.1 := by decide +kernel
theorem tyJ0_ok : ∀ k, k < 4 → parseFieldDescriptor (TJ0 k).2.2.1 = some (tyJ0 k) := by decide +kernel
abbrev cJ0_init_81219 : ByteArray := prog_30_method_53_code
def yJ0_init_81219 : MethodName := ⟨RJ0, "<init>", "(Ljava/lang/StringBuilder;)V"⟩
abbrev cJ0_length_8abf5 : ByteArray := prog_30_method_54_code
def yJ0_length_8abf5 : MethodName := ⟨RJ0, "length", "()I"⟩
abbrev cJ0_charAt_5068e : ByteArray := prog_30_method_56_code
def yJ0_charAt_5068e : MethodName := ⟨RJ0, "charAt", "(I)C"⟩
abbrev cJ0_getBytes_840e7 : ByteArray := prog_30_method_147_code
def yJ0_getBytes_840e7 : MethodName := ⟨RJ0, "getBytes", "([BIB)V"⟩
abbrev cJ0_init_db425 : ByteArray := prog_30_method_150_code
def yJ0_init_db425 : MethodName := ⟨RJ0, "<init>", "(Ljava/lang/AbstractStringBuilder;Ljava/lang/Void;)V"⟩
abbrev cJ0_coder_7d493 : ByteArray := prog_30_method_152_code
def yJ0_coder_7d493 : MethodName := ⟨RJ0, "coder", "()B"⟩
abbrev cJ0_isLatin1_aae02 : ByteArray := prog_30_method_154_code
def yJ0_isLatin1_aae02 : MethodName := ⟨RJ0, "isLatin1", "()Z"⟩
abbrev cJ0_checkIndex_df160 : ByteArray := prog_30_method_155_code
def yJ0_checkIndex_df160 : MethodName := ⟨RJ0, "checkIndex", "(II)V"⟩
abbrev cJ0_checkBoundsOffCount_cabcc : ByteArray := prog_30_method_157_code
def yJ0_checkBoundsOffCount_cabcc : MethodName := ⟨RJ0, "checkBoundsOffCount", "(III)I"⟩
abbrev cJ0_checkBoundsBeginEnd_23922 : ByteArray := prog_30_method_158_code
def yJ0_checkBoundsBeginEnd_23922 : MethodName := ⟨RJ0, "checkBoundsBeginEnd", "(III)V"⟩
def RJ4 : String := "java/lang/StringBuilder"
def TJ4 : u_T := fun k => match k with
  | 0 => ("java/lang/AbstractStringBuilder", "value", "[B", false)
  | 1 => ("java/lang/AbstractStringBuilder", "coder", "B", false)
  | 2 => ("java/lang/AbstractStringBuilder", "maybeLatin1", "Z", false)
  | _ => ("java/lang/AbstractStringBuilder", "count", "I", false)
def tyJ4 : Nat → FieldType := fun k => match k with
  | 0 => .array .byte
  | 1 => .byte
  | 2 => .boolean
  | _ => .int
abbrev wsJ40 : List Cond := u_ws RJ4 TJ4 4
theorem nmJ4 : ∀ a, a < 4 → ∀ b, b < 4 → a ≠ b → (TJ4 a).2.1 ≠ (TJ4 b).2.1 := by decide +kernel
theorem tyJ4_ok : ∀ k, k < 4 → parseFieldDescriptor (TJ4 k).2.2.1 = some (tyJ4 k) := by decide +kernel
abbrev cJ4_init_a7421 : ByteArray := prog_31_method_3_code
def yJ4_init_a7421 : MethodName := ⟨RJ4, "<init>", "(Ljava/lang/String;)V"⟩
abbrev cJ4_append_15ec4 : ByteArray := prog_31_method_7_code
def yJ4_append_15ec4 : MethodName := ⟨RJ4, "append", "(Ljava/lang/String;)Ljava/lang/StringBuilder;"⟩
abbrev cJ4_append_cf468 : ByteArray := prog_31_method_14_code
def yJ4_append_cf468 : MethodName := ⟨RJ4, "append", "(C)Ljava/lang/StringBuilder;"⟩
abbrev cJ4_append_bf812 : ByteArray := prog_31_method_15_code
def yJ4_append_bf812 : MethodName := ⟨RJ4, "append", "(I)Ljava/lang/StringBuilder;"⟩
abbrev cJ4_toString_0e30d : ByteArray := prog_31_method_42_code
def yJ4_toString_0e30d : MethodName := ⟨RJ4, "toString", "()Ljava/lang/String;"⟩
abbrev cJ4_append_cf1ce : ByteArray := prog_31_method_80_code
def yJ4_append_cf1ce : MethodName := ⟨RJ4, "append", "(Ljava/lang/String;)Ljava/lang/AbstractStringBuilder;"⟩
abbrev cJ4_length_8abf5 : ByteArray := prog_31_method_93_code
def yJ4_length_8abf5 : MethodName := ⟨RJ4, "length", "()I"⟩
def RJ1 : String := "java/lang/StringLatin1"
def TJ1 : u_T := fun k => match k with
  | _ => ("", "", "", false)
def tyJ1 : Nat → FieldType := fun k => match k with
  | _ => .int
abbrev wsJ10 : List Cond := u_ws RJ1 TJ1 0
theorem nmJ1 : ∀ a, a < 0 → ∀ b, b < 0 → a ≠ b → (TJ1 a).2.1 ≠ (TJ1 b).2.1 := by decide +kernel
theorem tyJ1_ok : ∀ k, k < 0 → parseFieldDescriptor (TJ1 k).2.2.1 = some (tyJ1 k) := by decide +kernel
abbrev cJ1_charAt_3b067 : ByteArray := prog_32_method_2_code
def yJ1_charAt_3b067 : MethodName := ⟨RJ1, "charAt", "([BI)C"⟩
abbrev cJ1_canEncode_fc78d : ByteArray := prog_32_method_3_code
def yJ1_canEncode_fc78d : MethodName := ⟨RJ1, "canEncode", "(C)Z"⟩
abbrev cJ1_inflate_0e8fd : ByteArray := prog_32_method_50_code
def yJ1_inflate_0e8fd : MethodName := ⟨RJ1, "inflate", "([BI[BII)V"⟩
def RJ2 : String := "java/lang/StringUTF16"
def TJ2 : u_T := fun k => match k with
  | _ => ("", "", "", false)
def tyJ2 : Nat → FieldType := fun k => match k with
  | _ => .int
abbrev wsJ20 : List Cond := u_ws RJ2 TJ2 0
theorem nmJ2 : ∀ a, a < 0 → ∀ b, b < 0 → a ≠ b → (TJ2 a).2.1 ≠ (TJ2 b).2.1 := by decide +kernel
theorem tyJ2_ok : ∀ k, k < 0 → parseFieldDescriptor (TJ2 k).2.2.1 = some (tyJ2 k) := by decide +kernel
abbrev cJ2_newBytesFor_77867 : ByteArray := prog_33_method_2_code
def yJ2_newBytesFor_77867 : MethodName := ⟨RJ2, "newBytesFor", "(I)[B"⟩
abbrev cJ2_newBytesLength_0f7a4 : ByteArray := prog_33_method_3_code
def yJ2_newBytesLength_0f7a4 : MethodName := ⟨RJ2, "newBytesLength", "(I)I"⟩
abbrev cJ2_putChar_b72d1 : ByteArray := prog_33_method_4_code
def yJ2_putChar_b72d1 : MethodName := ⟨RJ2, "putChar", "([BII)V"⟩
abbrev cJ2_getChar_3b067 : ByteArray := prog_33_method_5_code
def yJ2_getChar_3b067 : MethodName := ⟨RJ2, "getChar", "([BI)C"⟩
abbrev cJ2_length_9d52b : ByteArray := prog_33_method_6_code
def yJ2_length_9d52b : MethodName := ⟨RJ2, "length", "([B)I"⟩
abbrev cJ2_coderFromArrayLen_85cad : ByteArray := prog_33_method_15_code
def yJ2_coderFromArrayLen_85cad : MethodName := ⟨RJ2, "coderFromArrayLen", "([BI)B"⟩
abbrev cJ2_compress_39247 : ByteArray := prog_33_method_17_code
def yJ2_compress_39247 : MethodName := ⟨RJ2, "compress", "([BII)[B"⟩
abbrev cJ2_compress_5af95 : ByteArray := prog_33_method_22_code
def yJ2_compress_5af95 : MethodName := ⟨RJ2, "compress", "([BI[BII)I"⟩
abbrev cJ2_putCharSB_b72d1 : ByteArray := prog_33_method_71_code
def yJ2_putCharSB_b72d1 : MethodName := ⟨RJ2, "putCharSB", "([BII)V"⟩
abbrev cJ2_getChars_46870 : ByteArray := prog_33_method_77_code
def yJ2_getChars_46870 : MethodName := ⟨RJ2, "getChars", "(III[B)I"⟩
abbrev cJ2_putCharsAt_cd4e5 : ByteArray := prog_33_method_81_code
def yJ2_putCharsAt_cd4e5 : MethodName := ⟨RJ2, "putCharsAt", "([BICCCC)I"⟩
abbrev cJ2_charAt_3b067 : ByteArray := prog_33_method_83_code
def yJ2_charAt_3b067 : MethodName := ⟨RJ2, "charAt", "([BI)C"⟩
abbrev cJ2_inflate_0e8fd : ByteArray := prog_33_method_86_code
def yJ2_inflate_0e8fd : MethodName := ⟨RJ2, "inflate", "([BI[BII)V"⟩
abbrev cJ2_getChars_ba4f3 : ByteArray := prog_33_method_89_code
def yJ2_getChars_ba4f3 : MethodName := ⟨RJ2, "getChars", "(II[B)I"⟩
abbrev cJ2_checkIndex_2214a : ByteArray := prog_33_method_91_code
def yJ2_checkIndex_2214a : MethodName := ⟨RJ2, "checkIndex", "(I[B)V"⟩
abbrev cJ2_checkBoundsBeginEnd_d044e : ByteArray := prog_33_method_93_code
def yJ2_checkBoundsBeginEnd_d044e : MethodName := ⟨RJ2, "checkBoundsBeginEnd", "(II[B)V"⟩
abbrev cJ2_checkBoundsOffCount_d044e : ByteArray := prog_33_method_94_code
def yJ2_checkBoundsOffCount_d044e : MethodName := ⟨RJ2, "checkBoundsOffCount", "(II[B)V"⟩
def RJ10 : String := "java/lang/System"
def TJ10 : u_T := fun k => match k with
  | _ => ("", "", "", false)
def tyJ10 : Nat → FieldType := fun k => match k with
  | _ => .int
abbrev wsJ100 : List Cond := u_ws RJ10 TJ10 0
theorem nmJ10 : ∀ a, a < 0 → ∀ b, b < 0 → a ≠ b → (TJ10 a).2.1 ≠ (TJ10 b).2.1 := by decide +kernel
theorem tyJ10_ok : ∀ k, k < 0 → parseFieldDescriptor (TJ10 k).2.2.1 = some (tyJ10 k) := by decide +kernel
def RJxfd54e : String := "java/lang/constant/Constable"
def TJxfd54e : u_T := fun k => match k with
  | _ => ("", "", "", false)
def tyJxfd54e : Nat → FieldType := fun k => match k with
  | _ => .int
abbrev wsJxfd54e0 : List Cond := u_ws RJxfd54e TJxfd54e 0
theorem nmJxfd54e : ∀ a, a < 0 → ∀ b, b < 0 → a ≠ b → (TJxfd54e a).2.1 ≠ (TJxfd54e b).2.1 := by decide +kernel
theorem tyJxfd54e_ok : ∀ k, k < 0 → parseFieldDescriptor (TJxfd54e k).2.2.1 = some (tyJxfd54e k) := by decide +kernel
def RJx3cf43 : String := "java/lang/constant/ConstantDesc"
def TJx3cf43 : u_T := fun k => match k with
  | _ => ("", "", "", false)
def tyJx3cf43 : Nat → FieldType := fun k => match k with
  | _ => .int
abbrev wsJx3cf430 : List Cond := u_ws RJx3cf43 TJx3cf43 0
theorem nmJx3cf43 : ∀ a, a < 0 → ∀ b, b < 0 → a ≠ b → (TJx3cf43 a).2.1 ≠ (TJx3cf43 b).2.1 := by decide +kernel
theorem tyJx3cf43_ok : ∀ k, k < 0 → parseFieldDescriptor (TJx3cf43 k).2.2.1 = some (tyJx3cf43 k) := by decide +kernel
def RJxa1e45 : String := "java/util/AbstractCollection"
def TJxa1e45 : u_T := fun k => match k with
  | _ => ("", "", "", false)
def tyJxa1e45 : Nat → FieldType := fun k => match k with
  | _ => .int
abbrev wsJxa1e450 : List Cond := u_ws RJxa1e45 TJxa1e45 0
theorem nmJxa1e45 : ∀ a, a < 0 → ∀ b, b < 0 → a ≠ b → (TJxa1e45 a).2.1 ≠ (TJxa1e45 b).2.1 := by decide +kernel
theorem tyJxa1e45_ok : ∀ k, k < 0 → parseFieldDescriptor (TJxa1e45 k).2.2.1 = some (tyJxa1e45 k) := by decide +kernel
abbrev cJxa1e45_init_da8c8 : ByteArray := prog_38_method_1_code
def yJxa1e45_init_da8c8 : MethodName := ⟨RJxa1e45, "<init>", "()V"⟩
def RJxc12de : String := "java/util/AbstractList"
def TJxc12de : u_T := fun k => match k with
  | _ => ("", "", "", false)
def tyJxc12de : Nat → FieldType := fun k => match k with
  | _ => .int
abbrev wsJxc12de0 : List Cond := u_ws RJxc12de TJxc12de 0
theorem nmJxc12de : ∀ a, a < 0 → ∀ b, b < 0 → a ≠ b → (TJxc12de a).2.1 ≠ (TJxc12de b).2.1 := by decide +kernel
theorem tyJxc12de_ok : ∀ k, k < 0 → parseFieldDescriptor (TJxc12de k).2.2.1 = some (tyJxc12de k) := by decide +kernel
abbrev cJxc12de_init_da8c8 : ByteArray := prog_39_method_1_code
def yJxc12de_init_da8c8 : MethodName := ⟨RJxc12de, "<init>", "()V"⟩
def RJx4a65c : String := "java/util/ArrayList"
def TJx4a65c : u_T := fun k => match k with
  | 0 => ("java/util/AbstractList", "modCount", "I", false)
  | 1 => ("java/util/ArrayList", "elementData", "[Ljava/lang/Object;", false)
  | _ => ("java/util/ArrayList", "size", "I", false)
def tyJx4a65c : Nat → FieldType := fun k => match k with
  | 0 => .int
  | 1 => .array (.object "java/lang/Object")
  | _ => .int
abbrev wsJx4a65c0 : List Cond := u_ws RJx4a65c TJx4a65c 3
theorem nmJx4a65c : ∀ a, a < 3 → ∀ b, b < 3 → a ≠ b → (TJx4a65c a).2.1 ≠ (TJx4a65c b).2.1 := by decide +kernel
theorem tyJx4a65c_ok : ∀ k, k < 3 → parseFieldDescriptor (TJx4a65c k).2.2.1 = some (tyJx4a65c k) := by decide +kernel
abbrev cJx4a65c_init_da8c8 : ByteArray := prog_40_method_2_code
def yJx4a65c_init_da8c8 : MethodName := ⟨RJx4a65c, "<init>", "()V"⟩
abbrev cJx4a65c_grow_92f84 : ByteArray := prog_40_method_6_code
def yJx4a65c_grow_92f84 : MethodName := ⟨RJx4a65c, "grow", "(I)[Ljava/lang/Object;"⟩
abbrev cJx4a65c_grow_d5877 : ByteArray := prog_40_method_7_code
def yJx4a65c_grow_d5877 : MethodName := ⟨RJx4a65c, "grow", "()[Ljava/lang/Object;"⟩
abbrev cJx4a65c_size_8abf5 : ByteArray := prog_40_method_8_code
def yJx4a65c_size_8abf5 : MethodName := ⟨RJx4a65c, "size", "()I"⟩
abbrev cJx4a65c_elementData_915e3 : ByteArray := prog_40_method_18_code
def yJx4a65c_elementData_915e3 : MethodName := ⟨RJx4a65c, "elementData", "(I)Ljava/lang/Object;"⟩
abbrev cJx4a65c_get_915e3 : ByteArray := prog_40_method_20_code
def yJx4a65c_get_915e3 : MethodName := ⟨RJx4a65c, "get", "(I)Ljava/lang/Object;"⟩
abbrev cJx4a65c_add_72be8 : ByteArray := prog_40_method_24_code
def yJx4a65c_add_72be8 : MethodName := ⟨RJx4a65c, "add", "(Ljava/lang/Object;[Ljava/lang/Object;I)V"⟩
abbrev cJx4a65c_add_9ea2d : ByteArray := prog_40_method_25_code
def yJx4a65c_add_9ea2d : MethodName := ⟨RJx4a65c, "add", "(Ljava/lang/Object;)Z"⟩
def RJ7 : String := "java/util/Arrays"
def TJ7 : u_T := fun k => match k with
  | _ => ("", "", "", false)
def tyJ7 : Nat → FieldType := fun k => match k with
  | _ => .int
abbrev wsJ70 : List Cond := u_ws RJ7 TJ7 0
theorem nmJ7 : ∀ a, a < 0 → ∀ b, b < 0 → a ≠ b → (TJ7 a).2.1 ≠ (TJ7 b).2.1 := by decide +kernel
theorem tyJ7_ok : ∀ k, k < 0 → parseFieldDescriptor (TJ7 k).2.2.1 = some (tyJ7 k) := by decide +kernel
abbrev cJ7_copyOf_1904c : ByteArray := prog_41_method_119_code
def yJ7_copyOf_1904c : MethodName := ⟨RJ7, "copyOf", "([Ljava/lang/Object;I)[Ljava/lang/Object;"⟩
abbrev cJ7_copyOf_6403c : ByteArray := prog_41_method_120_code
def yJ7_copyOf_6403c : MethodName := ⟨RJ7, "copyOf", "([Ljava/lang/Object;ILjava/lang/Class;)[Ljava/lang/Object;"⟩
abbrev cJ7_copyOf_9075b : ByteArray := prog_41_method_121_code
def yJ7_copyOf_9075b : MethodName := ⟨RJ7, "copyOf", "([BI)[B"⟩
abbrev cJ7_checkLength_df160 : ByteArray := prog_41_method_131_code
def yJ7_checkLength_df160 : MethodName := ⟨RJ7, "checkLength", "(II)V"⟩
abbrev cJ7_copyOfRange_39247 : ByteArray := prog_41_method_132_code
def yJ7_copyOfRange_39247 : MethodName := ⟨RJ7, "copyOfRange", "([BII)[B"⟩
abbrev cJ7_copyOfRangeByte_39247 : ByteArray := prog_41_method_133_code
def yJ7_copyOfRangeByte_39247 : MethodName := ⟨RJ7, "copyOfRangeByte", "([BII)[B"⟩
def RJx5ef63 : String := "java/util/Collection"
def TJx5ef63 : u_T := fun k => match k with
  | _ => ("", "", "", false)
def tyJx5ef63 : Nat → FieldType := fun k => match k with
  | _ => .int
abbrev wsJx5ef630 : List Cond := u_ws RJx5ef63 TJx5ef63 0
theorem nmJx5ef63 : ∀ a, a < 0 → ∀ b, b < 0 → a ≠ b → (TJx5ef63 a).2.1 ≠ (TJx5ef63 b).2.1 := by decide +kernel
theorem tyJx5ef63_ok : ∀ k, k < 0 → parseFieldDescriptor (TJx5ef63 k).2.2.1 = some (tyJx5ef63 k) := by decide +kernel
def RJxbd725 : String := "java/util/List"
def TJxbd725 : u_T := fun k => match k with
  | _ => ("", "", "", false)
def tyJxbd725 : Nat → FieldType := fun k => match k with
  | _ => .int
abbrev wsJxbd7250 : List Cond := u_ws RJxbd725 TJxbd725 0
theorem nmJxbd725 : ∀ a, a < 0 → ∀ b, b < 0 → a ≠ b → (TJxbd725 a).2.1 ≠ (TJxbd725 b).2.1 := by decide +kernel
theorem tyJxbd725_ok : ∀ k, k < 0 → parseFieldDescriptor (TJxbd725 k).2.2.1 = some (tyJxbd725 k) := by decide +kernel
def RJ15 : String := "java/util/Objects"
def TJ15 : u_T := fun k => match k with
  | _ => ("", "", "", false)
def tyJ15 : Nat → FieldType := fun k => match k with
  | _ => .int
abbrev wsJ150 : List Cond := u_ws RJ15 TJ15 0
theorem nmJ15 : ∀ a, a < 0 → ∀ b, b < 0 → a ≠ b → (TJ15 a).2.1 ≠ (TJ15 b).2.1 := by decide +kernel
theorem tyJ15_ok : ∀ k, k < 0 → parseFieldDescriptor (TJ15 k).2.2.1 = some (tyJ15 k) := by decide +kernel
abbrev cJ15_checkIndex_7cf53 : ByteArray := prog_44_method_17_code
def yJ15_checkIndex_7cf53 : MethodName := ⟨RJ15, "checkIndex", "(II)I"⟩
def RJxf0a74 : String := "java/util/RandomAccess"
def TJxf0a74 : u_T := fun k => match k with
  | _ => ("", "", "", false)
def tyJxf0a74 : Nat → FieldType := fun k => match k with
  | _ => .int
abbrev wsJxf0a740 : List Cond := u_ws RJxf0a74 TJxf0a74 0
theorem nmJxf0a74 : ∀ a, a < 0 → ∀ b, b < 0 → a ≠ b → (TJxf0a74 a).2.1 ≠ (TJxf0a74 b).2.1 := by decide +kernel
theorem tyJxf0a74_ok : ∀ k, k < 0 → parseFieldDescriptor (TJxf0a74 k).2.2.1 = some (tyJxf0a74 k) := by decide +kernel
def RJxa66e6 : String := "java/util/SequencedCollection"
def TJxa66e6 : u_T := fun k => match k with
  | _ => ("", "", "", false)
def tyJxa66e6 : Nat → FieldType := fun k => match k with
  | _ => .int
abbrev wsJxa66e60 : List Cond := u_ws RJxa66e6 TJxa66e6 0
theorem nmJxa66e6 : ∀ a, a < 0 → ∀ b, b < 0 → a ≠ b → (TJxa66e6 a).2.1 ≠ (TJxa66e6 b).2.1 := by decide +kernel
theorem tyJxa66e6_ok : ∀ k, k < 0 → parseFieldDescriptor (TJxa66e6 k).2.2.1 = some (tyJxa66e6 k) := by decide +kernel
def RJ8 : String := "jdk/internal/util/ArraysSupport"
def TJ8 : u_T := fun k => match k with
  | _ => ("", "", "", false)
def tyJ8 : Nat → FieldType := fun k => match k with
  | _ => .int
abbrev wsJ80 : List Cond := u_ws RJ8 TJ8 0
theorem nmJ8 : ∀ a, a < 0 → ∀ b, b < 0 → a ≠ b → (TJ8 a).2.1 ≠ (TJ8 b).2.1 := by decide +kernel
theorem tyJ8_ok : ∀ k, k < 0 → parseFieldDescriptor (TJ8 k).2.2.1 = some (tyJ8 k) := by decide +kernel
abbrev cJ8_newLength_cabcc : ByteArray := prog_47_method_27_code
def yJ8_newLength_cabcc : MethodName := ⟨RJ8, "newLength", "(III)I"⟩
abbrev cJ8_hugeLength_7cf53 : ByteArray := prog_47_method_28_code
def yJ8_hugeLength_7cf53 : MethodName := ⟨RJ8, "hugeLength", "(II)I"⟩
def RJ3 : String := "jdk/internal/util/Preconditions"
def TJ3 : u_T := fun k => match k with
  | _ => ("", "", "", false)
def tyJ3 : Nat → FieldType := fun k => match k with
  | _ => .int
abbrev wsJ30 : List Cond := u_ws RJ3 TJ3 0
theorem nmJ3 : ∀ a, a < 0 → ∀ b, b < 0 → a ≠ b → (TJ3 a).2.1 ≠ (TJ3 b).2.1 := by decide +kernel
theorem tyJ3_ok : ∀ k, k < 0 → parseFieldDescriptor (TJ3 k).2.2.1 = some (tyJ3 k) := by decide +kernel
abbrev cJ3_checkIndex_8e157 : ByteArray := prog_48_method_11_code
def yJ3_checkIndex_8e157 : MethodName := ⟨RJ3, "checkIndex", "(IILjava/util/function/BiFunction;)I"⟩
abbrev cJ3_checkFromToIndex_8c36e : ByteArray := prog_48_method_12_code
def yJ3_checkFromToIndex_8c36e : MethodName := ⟨RJ3, "checkFromToIndex", "(IIILjava/util/function/BiFunction;)I"⟩
abbrev cJ3_checkFromIndexSize_8c36e : ByteArray := prog_48_method_13_code
def yJ3_checkFromIndexSize_8c36e : MethodName := ⟨RJ3, "checkFromIndexSize", "(IIILjava/util/function/BiFunction;)I"⟩
def RL : String := "PreparedPlansLaw"
def TL : u_T := fun k => match k with
  | 0 => ("PreparedPlansLaw", "a", "[I", true)
  | 1 => ("PreparedPlansLaw", "b", "[I", true)
  | 2 => ("PreparedPlansLaw", "many", "I", false)
  | 3 => ("PreparedPlansLaw", "rows", "I", false)
  | 4 => ("PreparedPlansLaw", "unlike", "I", false)
  | 5 => ("PreparedPlansLaw", "least", "I", false)
  | 6 => ("PreparedPlansLaw", "greatest", "I", false)
  | 7 => ("PreparedPlansLaw", "version", "I", false)
  | 8 => ("PreparedPlansLaw", "scan", "I", false)
  | 9 => ("PreparedPlansLaw", "probe", "I", false)
  | 10 => ("PreparedPlansLaw", "fetch", "I", false)
  | 11 => ("PreparedPlansLaw", "tries", "I", false)
  | 12 => ("PreparedPlansLaw", "runs", "I", false)
  | 13 => ("PreparedPlansLaw", "specials", "I", false)
  | 14 => ("PreparedPlansLaw", "sum", "I", false)
  | 15 => ("PreparedPlansLaw", "learned", "I", false)
  | 16 => ("PreparedPlansLaw", "made", "I", false)
  | 17 => ("PreparedPlansLaw", "touched", "I", false)
  | 18 => ("PreparedPlansLaw", "keptPlan", "I", false)
  | 19 => ("PreparedPlansLaw", "keptCost", "I", false)
  | _ => ("PreparedPlansLaw", "keptVersion", "I", false)
def tyL : Nat → FieldType := fun k => match k with
  | 0 => .array .int
  | 1 => .array .int
  | 2 => .int
  | 3 => .int
  | 4 => .int
  | 5 => .int
  | 6 => .int
  | 7 => .int
  | 8 => .int
  | 9 => .int
  | 10 => .int
  | 11 => .int
  | 12 => .int
  | 13 => .int
  | 14 => .int
  | 15 => .int
  | 16 => .int
  | 17 => .int
  | 18 => .int
  | 19 => .int
  | _ => .int
abbrev wsL0 : List Cond := u_ws RL TL 21
theorem nmL : ∀ a, a < 21 → ∀ b, b < 21 → a ≠ b → (TL a).2.1 ≠ (TL b).2.1 := by decide +kernel
theorem tyL_ok : ∀ k, k < 21 → parseFieldDescriptor (TL k).2.2.1 = some (tyL k) := by decide +kernel
abbrev cL_init : ByteArray := method_1_code
def yL_init : MethodName := ⟨RL, "<init>", "()V"⟩
abbrev cL_cell : ByteArray := method_2_code
def yL_cell : MethodName := ⟨RL, "cell", "([II)I"⟩
abbrev cL_bound : ByteArray := method_3_code
def yL_bound : MethodName := ⟨RL, "bound", "(II)I"⟩
abbrev cL_read : ByteArray := method_4_code
def yL_read : MethodName := ⟨RL, "read", "(LPreparedPlans;Ljava/lang/String;)I"⟩
abbrev cL_analyze : ByteArray := method_5_code
def yL_analyze : MethodName := ⟨RL, "analyze", "()V"⟩
abbrev cL_estimate : ByteArray := method_6_code
def yL_estimate : MethodName := ⟨RL, "estimate", "(IZZ)I"⟩
abbrev cL_cost : ByteArray := method_7_code
def yL_cost : MethodName := ⟨RL, "cost", "(I)I"⟩
abbrev cL_plan : ByteArray := method_8_code
def yL_plan : MethodName := ⟨RL, "plan", "(I)I"⟩
abbrev cL_costOf : ByteArray := method_9_code
def yL_costOf : MethodName := ⟨RL, "costOf", "(II)I"⟩
abbrev cL_isGenericTurn : ByteArray := method_10_code
def yL_isGenericTurn : MethodName := ⟨RL, "isGenericTurn", "(I)Z"⟩
abbrev cL_used : ByteArray := method_11_code
def yL_used : MethodName := ⟨RL, "used", "(II)I"⟩
abbrev cL_run : ByteArray := method_12_code
def yL_run : MethodName := ⟨RL, "run", "(IZ)V"⟩
abbrev cL_isAlike : ByteArray := method_13_code
def yL_isAlike : MethodName := ⟨RL, "isAlike", "(LPreparedPlans;)Z"⟩
abbrev cL_isRun : ByteArray := method_14_code
def yL_isRun : MethodName := ⟨RL, "isRun", "(LPreparedPlans;IZI)Z"⟩
abbrev cL_step : ByteArray := method_15_code
def yL_step : MethodName := ⟨RL, "step", "(LPreparedPlans;IZI)Z"⟩
abbrev cL_law : ByteArray := code
def yL_law : MethodName := ⟨RL, "law", "([I)Z"⟩
abbrev vwCl : List vw_C := [(RJx4a65c, TJx4a65c, 3), (RX0, TX0, 4), (RX1, TX1, 2), (RX3, TX3, 7), (RX4, TX4, 4), (RX5, TX5, 8), (RX6, TX6, 6), (RX7, TX7, 4), (RX8, TX8, 8), (RX9, TX9, 9), (RX10, TX10, 7), (RL, TL, 21), (RJ4, TJ4, 4), (RJ0, TJ0, 4)]
