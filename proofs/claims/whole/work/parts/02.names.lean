def RX0 : String := "JarCannery$Brine"
def TX0 : u_T := fun k => match k with
  | 0 => ("JarCannery$Brine", "sources", "LJarCannery$Row;", true)
  | 1 => ("JarCannery$Brine", "strengths", "LJarCannery$Row;", true)
  | 2 => ("JarCannery$Brine", "raws", "I", false)
  | 3 => ("JarCannery$Brine", "faulty", "I", false)
  | _ => ("JarCannery$Brine", "batches", "I", false)
def tyX0 : Nat → FieldType := fun k => match k with
  | 0 => .object "JarCannery$Row"
  | 1 => .object "JarCannery$Row"
  | 2 => .int
  | 3 => .int
  | _ => .int
abbrev wsX00 : List Cond := u_ws RX0 TX0 5
theorem nmX0 : ∀ a, a < 5 → ∀ b, b < 5 → a ≠ b → (TX0 a).2.1 ≠ (TX0 b).2.1 := by decide +kernel
theorem tyX0_ok : ∀ k, k < 5 → parseFieldDescriptor (TX0 k).2.2.1 = some (tyX0 k) := by decide +kernel
abbrev cX0_init : ByteArray := prog_2_method_1_code
def yX0_init : MethodName := ⟨RX0, "<init>", "()V"⟩
abbrev cX0_hasRaw : ByteArray := prog_2_method_2_code
def yX0_hasRaw : MethodName := ⟨RX0, "hasRaw", "(I)Z"⟩
abbrev cX0_hasBatch : ByteArray := prog_2_method_3_code
def yX0_hasBatch : MethodName := ⟨RX0, "hasBatch", "(I)Z"⟩
abbrev cX0_hasSet : ByteArray := prog_2_method_4_code
def yX0_hasSet : MethodName := ⟨RX0, "hasSet", "(I)Z"⟩
abbrev cX0_isRawFaulty : ByteArray := prog_2_method_5_code
def yX0_isRawFaulty : MethodName := ⟨RX0, "isRawFaulty", "(I)Z"⟩
abbrev cX0_isSpoilt : ByteArray := prog_2_method_6_code
def yX0_isSpoilt : MethodName := ⟨RX0, "isSpoilt", "(I)Z"⟩
abbrev cX0_addOneRaw : ByteArray := prog_2_method_7_code
def yX0_addOneRaw : MethodName := ⟨RX0, "addOneRaw", "()I"⟩
abbrev cX0_addBatch : ByteArray := prog_2_method_8_code
def yX0_addBatch : MethodName := ⟨RX0, "addBatch", "(II)I"⟩
abbrev cX0_markFaulty : ByteArray := prog_2_method_9_code
def yX0_markFaulty : MethodName := ⟨RX0, "markFaulty", "(I)V"⟩
abbrev cX0_copyFrom : ByteArray := prog_2_method_10_code
def yX0_copyFrom : MethodName := ⟨RX0, "copyFrom", "(LJarCannery$Brine;)V"⟩
def RX1 : String := "JarCannery$CommandText"
def TX1 : u_T := fun k => match k with
  | 0 => ("JarCannery$CommandText", "source", "LJarCannery$Text;", true)
  | 1 => ("JarCannery$CommandText", "kinds", "LJarCannery$Row;", true)
  | 2 => ("JarCannery$CommandText", "arguments", "LJarCannery$Row;", true)
  | 3 => ("JarCannery$CommandText", "count", "I", false)
  | 4 => ("JarCannery$CommandText", "reading", "I", false)
  | _ => ("JarCannery$CommandText", "position", "I", false)
def tyX1 : Nat → FieldType := fun k => match k with
  | 0 => .object "JarCannery$Text"
  | 1 => .object "JarCannery$Row"
  | 2 => .object "JarCannery$Row"
  | 3 => .int
  | 4 => .int
  | _ => .int
abbrev wsX10 : List Cond := u_ws RX1 TX1 6
theorem nmX1 : ∀ a, a < 6 → ∀ b, b < 6 → a ≠ b → (TX1 a).2.1 ≠ (TX1 b).2.1 := by decide +kernel
theorem tyX1_ok : ∀ k, k < 6 → parseFieldDescriptor (TX1 k).2.2.1 = some (tyX1 k) := by decide +kernel
abbrev cX1_init : ByteArray := prog_3_method_1_code
def yX1_init : MethodName := ⟨RX1, "<init>", "()V"⟩
abbrev cX1_argument : ByteArray := prog_3_method_2_code
def yX1_argument : MethodName := ⟨RX1, "argument", "(II)I"⟩
abbrev cX1_read : ByteArray := prog_3_method_3_code
def yX1_read : MethodName := ⟨RX1, "read", "(LJarCannery$Text;)Z"⟩
abbrev cX1_readCommand : ByteArray := prog_3_method_4_code
def yX1_readCommand : MethodName := ⟨RX1, "readCommand", "()Z"⟩
abbrev cX1_readKind : ByteArray := prog_3_method_5_code
def yX1_readKind : MethodName := ⟨RX1, "readKind", "()I"⟩
abbrev cX1_nameOf : ByteArray := prog_3_method_6_code
def yX1_nameOf : MethodName := ⟨RX1, "nameOf", "(I)Ljava/lang/String;"⟩
abbrev cX1_sameLetters : ByteArray := prog_3_method_7_code
def yX1_sameLetters : MethodName := ⟨RX1, "sameLetters", "(Ljava/lang/String;)I"⟩
abbrev cX1_readDays : ByteArray := prog_3_method_8_code
def yX1_readDays : MethodName := ⟨RX1, "readDays", "()Z"⟩
abbrev cX1_readNumber : ByteArray := prog_3_method_9_code
def yX1_readNumber : MethodName := ⟨RX1, "readNumber", "(I)Z"⟩
abbrev cX1_readDigit : ByteArray := prog_3_method_10_code
def yX1_readDigit : MethodName := ⟨RX1, "readDigit", "(I)Z"⟩
abbrev cX1_isDigit : ByteArray := prog_3_method_11_code
def yX1_isDigit : MethodName := ⟨RX1, "isDigit", "(C)Z"⟩
abbrev cX1_keepArgument : ByteArray := prog_3_method_12_code
def yX1_keepArgument : MethodName := ⟨RX1, "keepArgument", "(II)V"⟩
def RX2 : String := "JarCannery$Crates"
def TX2 : u_T := fun k => match k with
  | 0 => ("JarCannery$Crates", "needed", "LJarCannery$Row;", true)
  | 1 => ("JarCannery$Crates", "lastLoads", "LJarCannery$Row;", true)
  | _ => ("JarCannery$Crates", "loads", "LJarCannery$Row;", true)
def tyX2 : Nat → FieldType := fun k => match k with
  | 0 => .object "JarCannery$Row"
  | 1 => .object "JarCannery$Row"
  | _ => .object "JarCannery$Row"
abbrev wsX20 : List Cond := u_ws RX2 TX2 3
theorem nmX2 : ∀ a, a < 3 → ∀ b, b < 3 → a ≠ b → (TX2 a).2.1 ≠ (TX2 b).2.1 := by decide +kernel
theorem tyX2_ok : ∀ k, k < 3 → parseFieldDescriptor (TX2 k).2.2.1 = some (tyX2 k) := by decide +kernel
abbrev cX2_init : ByteArray := prog_4_method_1_code
def yX2_init : MethodName := ⟨RX2, "<init>", "()V"⟩
abbrev cX2_leastBySets : ByteArray := prog_4_method_2_code
def yX2_leastBySets : MethodName := ⟨RX2, "leastBySets", "(LJarCannery$JarLots;I)I"⟩
abbrev cX2_findFor : ByteArray := prog_4_method_3_code
def yX2_findFor : MethodName := ⟨RX2, "findFor", "(ILJarCannery$JarLots;I)V"⟩
abbrev cX2_leastByTrial : ByteArray := prog_4_method_4_code
def yX2_leastByTrial : MethodName := ⟨RX2, "leastByTrial", "(LJarCannery$JarLots;I)I"⟩
abbrev cX2_put : ByteArray := prog_4_method_5_code
def yX2_put : MethodName := ⟨RX2, "put", "(LJarCannery$Row;LJarCannery$JarLots;IIII)I"⟩
def RX3 : String := "JarCannery$Distances"
def TX3 : u_T := fun k => match k with
  | 0 => ("JarCannery$Distances", "table", "LJarCannery$Row;", true)
  | _ => ("JarCannery$Distances", "found", "LJarCannery$Row;", true)
def tyX3 : Nat → FieldType := fun k => match k with
  | 0 => .object "JarCannery$Row"
  | _ => .object "JarCannery$Row"
abbrev wsX30 : List Cond := u_ws RX3 TX3 2
theorem nmX3 : ∀ a, a < 2 → ∀ b, b < 2 → a ≠ b → (TX3 a).2.1 ≠ (TX3 b).2.1 := by decide +kernel
theorem tyX3_ok : ∀ k, k < 2 → parseFieldDescriptor (TX3 k).2.2.1 = some (tyX3 k) := by decide +kernel
abbrev cX3_init : ByteArray := prog_5_method_1_code
def yX3_init : MethodName := ⟨RX3, "<init>", "()V"⟩
abbrev cX3_byTable : ByteArray := prog_5_method_2_code
def yX3_byTable : MethodName := ⟨RX3, "byTable", "(LJarCannery$Text;LJarCannery$Text;)I"⟩
abbrev cX3_cell : ByteArray := prog_5_method_3_code
def yX3_cell : MethodName := ⟨RX3, "cell", "(LJarCannery$Text;LJarCannery$Text;II)I"⟩
abbrev cX3_byLetters : ByteArray := prog_5_method_4_code
def yX3_byLetters : MethodName := ⟨RX3, "byLetters", "(LJarCannery$Text;LJarCannery$Text;)I"⟩
abbrev cX3_goOn : ByteArray := prog_5_method_5_code
def yX3_goOn : MethodName := ⟨RX3, "goOn", "(LJarCannery$Row;LJarCannery$Text;LJarCannery$Text;III)I"⟩
def RX4 : String := "JarCannery$History"
def TX4 : u_T := fun k => match k with
  | 0 => ("JarCannery$History", "ring", "[LJarCannery$State;", true)
  | 1 => ("JarCannery$History", "next", "I", false)
  | _ => ("JarCannery$History", "count", "I", false)
def tyX4 : Nat → FieldType := fun k => match k with
  | 0 => .array (.object "JarCannery$State")
  | 1 => .int
  | _ => .int
abbrev wsX40 : List Cond := u_ws RX4 TX4 3
theorem nmX4 : ∀ a, a < 3 → ∀ b, b < 3 → a ≠ b → (TX4 a).2.1 ≠ (TX4 b).2.1 := by decide +kernel
theorem tyX4_ok : ∀ k, k < 3 → parseFieldDescriptor (TX4 k).2.2.1 = some (tyX4 k) := by decide +kernel
abbrev cX4_init : ByteArray := prog_6_method_1_code
def yX4_init : MethodName := ⟨RX4, "<init>", "()V"⟩
abbrev cX4_at : ByteArray := prog_6_method_2_code
def yX4_at : MethodName := ⟨RX4, "at", "(I)LJarCannery$State;"⟩
abbrev cX4_keep : ByteArray := prog_6_method_3_code
def yX4_keep : MethodName := ⟨RX4, "keep", "(LJarCannery$State;)V"⟩
abbrev cX4_takeBack : ByteArray := prog_6_method_4_code
def yX4_takeBack : MethodName := ⟨RX4, "takeBack", "(LJarCannery$State;)V"⟩
abbrev cX4_forget : ByteArray := prog_6_method_5_code
def yX4_forget : MethodName := ⟨RX4, "forget", "()V"⟩
def RX5 : String := "JarCannery$JarLots"
def TX5 : u_T := fun k => match k with
  | 0 => ("JarCannery$JarLots", "numbers", "LJarCannery$Row;", true)
  | 1 => ("JarCannery$JarLots", "firsts", "LJarCannery$Row;", true)
  | 2 => ("JarCannery$JarLots", "seconds", "LJarCannery$Row;", true)
  | 3 => ("JarCannery$JarLots", "labels", "LJarCannery$Row;", true)
  | 4 => ("JarCannery$JarLots", "jars", "LJarCannery$Row;", true)
  | 5 => ("JarCannery$JarLots", "pressures", "LJarCannery$Row;", true)
  | 6 => ("JarCannery$JarLots", "count", "I", false)
  | _ => ("JarCannery$JarLots", "next", "I", false)
def tyX5 : Nat → FieldType := fun k => match k with
  | 0 => .object "JarCannery$Row"
  | 1 => .object "JarCannery$Row"
  | 2 => .object "JarCannery$Row"
  | 3 => .object "JarCannery$Row"
  | 4 => .object "JarCannery$Row"
  | 5 => .object "JarCannery$Row"
  | 6 => .int
  | _ => .int
abbrev wsX50 : List Cond := u_ws RX5 TX5 8
theorem nmX5 : ∀ a, a < 8 → ∀ b, b < 8 → a ≠ b → (TX5 a).2.1 ≠ (TX5 b).2.1 := by decide +kernel
theorem tyX5_ok : ∀ k, k < 8 → parseFieldDescriptor (TX5 k).2.2.1 = some (tyX5 k) := by decide +kernel
abbrev cX5_init : ByteArray := prog_7_method_1_code
def yX5_init : MethodName := ⟨RX5, "<init>", "()V"⟩
abbrev cX5_positionOf : ByteArray := prog_7_method_2_code
def yX5_positionOf : MethodName := ⟨RX5, "positionOf", "(I)I"⟩
abbrev cX5_positionOfRank : ByteArray := prog_7_method_3_code
def yX5_positionOfRank : MethodName := ⟨RX5, "positionOfRank", "(I)I"⟩
abbrev cX5_rankOf : ByteArray := prog_7_method_4_code
def yX5_rankOf : MethodName := ⟨RX5, "rankOf", "(I)I"⟩
abbrev cX5_sumOf : ByteArray := prog_7_method_5_code
def yX5_sumOf : MethodName := ⟨RX5, "sumOf", "(LJarCannery$Row;)I"⟩
abbrev cX5_add : ByteArray := prog_7_method_6_code
def yX5_add : MethodName := ⟨RX5, "add", "(IIII)I"⟩
abbrev cX5_remove : ByteArray := prog_7_method_7_code
def yX5_remove : MethodName := ⟨RX5, "remove", "(I)I"⟩
abbrev cX5_copyFrom : ByteArray := prog_7_method_8_code
def yX5_copyFrom : MethodName := ⟨RX5, "copyFrom", "(LJarCannery$JarLots;)V"⟩
def RX6 : String := "JarCannery$Labels"
def TX6 : u_T := fun k => match k with
  | 0 => ("JarCannery$Labels", "lengths", "LJarCannery$Row;", true)
  | 1 => ("JarCannery$Labels", "letters", "LJarCannery$Row;", true)
  | _ => ("JarCannery$Labels", "count", "I", false)
def tyX6 : Nat → FieldType := fun k => match k with
  | 0 => .object "JarCannery$Row"
  | 1 => .object "JarCannery$Row"
  | _ => .int
abbrev wsX60 : List Cond := u_ws RX6 TX6 3
theorem nmX6 : ∀ a, a < 3 → ∀ b, b < 3 → a ≠ b → (TX6 a).2.1 ≠ (TX6 b).2.1 := by decide +kernel
theorem tyX6_ok : ∀ k, k < 3 → parseFieldDescriptor (TX6 k).2.2.1 = some (tyX6 k) := by decide +kernel
abbrev cX6_init : ByteArray := prog_8_method_1_code
def yX6_init : MethodName := ⟨RX6, "<init>", "()V"⟩
abbrev cX6_has : ByteArray := prog_8_method_2_code
def yX6_has : MethodName := ⟨RX6, "has", "(I)Z"⟩
abbrev cX6_letter : ByteArray := prog_8_method_3_code
def yX6_letter : MethodName := ⟨RX6, "letter", "(II)C"⟩
abbrev cX6_holds : ByteArray := prog_8_method_4_code
def yX6_holds : MethodName := ⟨RX6, "holds", "(LJarCannery$Text;)Z"⟩
abbrev cX6_isSame : ByteArray := prog_8_method_5_code
def yX6_isSame : MethodName := ⟨RX6, "isSame", "(ILJarCannery$Text;)Z"⟩
abbrev cX6_addFrom : ByteArray := prog_8_method_6_code
def yX6_addFrom : MethodName := ⟨RX6, "addFrom", "(LJarCannery$Text;)V"⟩
abbrev cX6_appendTo : ByteArray := prog_8_method_7_code
def yX6_appendTo : MethodName := ⟨RX6, "appendTo", "(ILJarCannery$Text;)V"⟩
abbrev cX6_copyFrom : ByteArray := prog_8_method_8_code
def yX6_copyFrom : MethodName := ⟨RX6, "copyFrom", "(LJarCannery$Labels;)V"⟩
def RX7 : String := "JarCannery$Row"
def TX7 : u_T := fun k => match k with
  | _ => ("JarCannery$Row", "cells", "[I", true)
def tyX7 : Nat → FieldType := fun k => match k with
  | _ => .array .int
abbrev wsX70 : List Cond := u_ws RX7 TX7 1
theorem nmX7 : ∀ a, a < 1 → ∀ b, b < 1 → a ≠ b → (TX7 a).2.1 ≠ (TX7 b).2.1 := by decide +kernel
theorem tyX7_ok : ∀ k, k < 1 → parseFieldDescriptor (TX7 k).2.2.1 = some (tyX7 k) := by decide +kernel
abbrev cX7_init : ByteArray := prog_9_method_1_code
def yX7_init : MethodName := ⟨RX7, "<init>", "(I)V"⟩
abbrev cX7_get : ByteArray := prog_9_method_2_code
def yX7_get : MethodName := ⟨RX7, "get", "(I)I"⟩
abbrev cX7_set : ByteArray := prog_9_method_3_code
def yX7_set : MethodName := ⟨RX7, "set", "(II)V"⟩
abbrev cX7_setAll : ByteArray := prog_9_method_4_code
def yX7_setAll : MethodName := ⟨RX7, "setAll", "(I)V"⟩
abbrev cX7_closeGap : ByteArray := prog_9_method_5_code
def yX7_closeGap : MethodName := ⟨RX7, "closeGap", "(I)V"⟩
abbrev cX7_copyFrom : ByteArray := prog_9_method_6_code
def yX7_copyFrom : MethodName := ⟨RX7, "copyFrom", "(LJarCannery$Row;)V"⟩
def RX8 : String := "JarCannery$State"
def TX8 : u_T := fun k => match k with
  | 0 => ("JarCannery$State", "brine", "LJarCannery$Brine;", true)
  | 1 => ("JarCannery$State", "labels", "LJarCannery$Labels;", true)
  | 2 => ("JarCannery$State", "lots", "LJarCannery$JarLots;", true)
  | 3 => ("JarCannery$State", "days", "I", false)
  | 4 => ("JarCannery$State", "filledJars", "I", false)
  | 5 => ("JarCannery$State", "shippedJars", "I", false)
  | 6 => ("JarCannery$State", "recalledJars", "I", false)
  | _ => ("JarCannery$State", "spoiledJars", "I", false)
def tyX8 : Nat → FieldType := fun k => match k with
  | 0 => .object "JarCannery$Brine"
  | 1 => .object "JarCannery$Labels"
  | 2 => .object "JarCannery$JarLots"
  | 3 => .int
  | 4 => .int
  | 5 => .int
  | 6 => .int
  | _ => .int
abbrev wsX80 : List Cond := u_ws RX8 TX8 8
theorem nmX8 : ∀ a, a < 8 → ∀ b, b < 8 → a ≠ b → (TX8 a).2.1 ≠ (TX8 b).2.1 := by decide +kernel
theorem tyX8_ok : ∀ k, k < 8 → parseFieldDescriptor (TX8 k).2.2.1 = some (tyX8 k) := by decide +kernel
abbrev cX8_init : ByteArray := prog_10_method_1_code
def yX8_init : MethodName := ⟨RX8, "<init>", "()V"⟩
abbrev cX8_rawRefusal : ByteArray := prog_10_method_2_code
def yX8_rawRefusal : MethodName := ⟨RX8, "rawRefusal", "()I"⟩
abbrev cX8_mixRefusal : ByteArray := prog_10_method_3_code
def yX8_mixRefusal : MethodName := ⟨RX8, "mixRefusal", "(II)I"⟩
abbrev cX8_labelRefusal : ByteArray := prog_10_method_4_code
def yX8_labelRefusal : MethodName := ⟨RX8, "labelRefusal", "(LJarCannery$Text;)I"⟩
abbrev cX8_fillRefusal : ByteArray := prog_10_method_5_code
def yX8_fillRefusal : MethodName := ⟨RX8, "fillRefusal", "(IIII)I"⟩
abbrev cX8_fillLot : ByteArray := prog_10_method_6_code
def yX8_fillLot : MethodName := ⟨RX8, "fillLot", "(IIII)I"⟩
abbrev cX8_shipRefusal : ByteArray := prog_10_method_7_code
def yX8_shipRefusal : MethodName := ⟨RX8, "shipRefusal", "(I)I"⟩
abbrev cX8_shipLot : ByteArray := prog_10_method_8_code
def yX8_shipLot : MethodName := ⟨RX8, "shipLot", "(I)I"⟩
abbrev cX8_passRefusal : ByteArray := prog_10_method_9_code
def yX8_passRefusal : MethodName := ⟨RX8, "passRefusal", "(I)I"⟩
abbrev cX8_passDays : ByteArray := prog_10_method_10_code
def yX8_passDays : MethodName := ⟨RX8, "passDays", "(I)I"⟩
abbrev cX8_passOneDay : ByteArray := prog_10_method_11_code
def yX8_passOneDay : MethodName := ⟨RX8, "passOneDay", "()I"⟩
abbrev cX8_recallRefusal : ByteArray := prog_10_method_12_code
def yX8_recallRefusal : MethodName := ⟨RX8, "recallRefusal", "(I)I"⟩
abbrev cX8_recallRaw : ByteArray := prog_10_method_13_code
def yX8_recallRaw : MethodName := ⟨RX8, "recallRaw", "(I)I"⟩
abbrev cX8_strengthAt : ByteArray := prog_10_method_14_code
def yX8_strengthAt : MethodName := ⟨RX8, "strengthAt", "(I)I"⟩
abbrev cX8_rawsAt : ByteArray := prog_10_method_15_code
def yX8_rawsAt : MethodName := ⟨RX8, "rawsAt", "(I)I"⟩
abbrev cX8_riseAt : ByteArray := prog_10_method_16_code
def yX8_riseAt : MethodName := ⟨RX8, "riseAt", "(I)I"⟩
abbrev cX8_daysDayByDay : ByteArray := prog_10_method_17_code
def yX8_daysDayByDay : MethodName := ⟨RX8, "daysDayByDay", "(I)I"⟩
abbrev cX8_daysDivided : ByteArray := prog_10_method_18_code
def yX8_daysDivided : MethodName := ⟨RX8, "daysDivided", "(I)I"⟩
abbrev cX8_countThroughBatches : ByteArray := prog_10_method_19_code
def yX8_countThroughBatches : MethodName := ⟨RX8, "countThroughBatches", "(I)I"⟩
abbrev cX8_lotsOfBatch : ByteArray := prog_10_method_20_code
def yX8_lotsOfBatch : MethodName := ⟨RX8, "lotsOfBatch", "(I)I"⟩
abbrev cX8_countFromSets : ByteArray := prog_10_method_21_code
def yX8_countFromSets : MethodName := ⟨RX8, "countFromSets", "(I)I"⟩
abbrev cX8_copyFrom : ByteArray := prog_10_method_22_code
def yX8_copyFrom : MethodName := ⟨RX8, "copyFrom", "(LJarCannery$State;)V"⟩
def RX9 : String := "JarCannery$TestSets"
def TX9 : u_T := fun k => match k with
  | _ => ("", "", "", false)
def tyX9 : Nat → FieldType := fun k => match k with
  | _ => .int
abbrev wsX90 : List Cond := u_ws RX9 TX9 0
theorem nmX9 : ∀ a, a < 0 → ∀ b, b < 0 → a ≠ b → (TX9 a).2.1 ≠ (TX9 b).2.1 := by decide +kernel
theorem tyX9_ok : ∀ k, k < 0 → parseFieldDescriptor (TX9 k).2.2.1 = some (tyX9 k) := by decide +kernel
abbrev cX9_best : ByteArray := prog_11_method_2_code
def yX9_best : MethodName := ⟨RX9, "best", "(LJarCannery$State;)I"⟩
abbrev cX9_firstUntested : ByteArray := prog_11_method_3_code
def yX9_firstUntested : MethodName := ⟨RX9, "firstUntested", "(LJarCannery$State;I)I"⟩
abbrev cX9_fewestByBranching : ByteArray := prog_11_method_4_code
def yX9_fewestByBranching : MethodName := ⟨RX9, "fewestByBranching", "(LJarCannery$State;)I"⟩
abbrev cX9_branch : ByteArray := prog_11_method_5_code
def yX9_branch : MethodName := ⟨RX9, "branch", "(LJarCannery$State;II)I"⟩
def RX10 : String := "JarCannery$Text"
def TX10 : u_T := fun k => match k with
  | 0 => ("JarCannery$Text", "capacity", "I", true)
  | 1 => ("JarCannery$Text", "characters", "LJarCannery$Row;", true)
  | _ => ("JarCannery$Text", "length", "I", false)
def tyX10 : Nat → FieldType := fun k => match k with
  | 0 => .int
  | 1 => .object "JarCannery$Row"
  | _ => .int
abbrev wsX100 : List Cond := u_ws RX10 TX10 3
theorem nmX10 : ∀ a, a < 3 → ∀ b, b < 3 → a ≠ b → (TX10 a).2.1 ≠ (TX10 b).2.1 := by decide +kernel
theorem tyX10_ok : ∀ k, k < 3 → parseFieldDescriptor (TX10 k).2.2.1 = some (tyX10 k) := by decide +kernel
abbrev cX10_init : ByteArray := prog_12_method_1_code
def yX10_init : MethodName := ⟨RX10, "<init>", "(I)V"⟩
abbrev cX10_at : ByteArray := prog_12_method_2_code
def yX10_at : MethodName := ⟨RX10, "at", "(I)C"⟩
abbrev cX10_clear : ByteArray := prog_12_method_3_code
def yX10_clear : MethodName := ⟨RX10, "clear", "()V"⟩
abbrev cX10_add : ByteArray := prog_12_method_4_code
def yX10_add : MethodName := ⟨RX10, "add", "(C)V"⟩
abbrev cX10_addNumber : ByteArray := prog_12_method_5_code
def yX10_addNumber : MethodName := ⟨RX10, "addNumber", "(I)V"⟩
abbrev cX10_copyFrom : ByteArray := prog_12_method_6_code
def yX10_copyFrom : MethodName := ⟨RX10, "copyFrom", "(LJarCannery$Text;)V"⟩
abbrev cX10_isLetters : ByteArray := prog_12_method_7_code
def yX10_isLetters : MethodName := ⟨RX10, "isLetters", "(I)Z"⟩
def RX11 : String := "JarCannery"
def TX11 : u_T := fun k => match k with
  | 0 => ("JarCannery", "state", "LJarCannery$State;", true)
  | 1 => ("JarCannery", "before", "LJarCannery$State;", true)
  | 2 => ("JarCannery", "snapshot", "LJarCannery$State;", true)
  | 3 => ("JarCannery", "history", "LJarCannery$History;", true)
  | 4 => ("JarCannery", "text", "LJarCannery$Text;", true)
  | 5 => ("JarCannery", "line", "LJarCannery$Text;", true)
  | 6 => ("JarCannery", "word", "LJarCannery$Text;", true)
  | 7 => ("JarCannery", "commands", "LJarCannery$CommandText;", true)
  | 8 => ("JarCannery", "distances", "LJarCannery$Distances;", true)
  | 9 => ("JarCannery", "crates", "LJarCannery$Crates;", true)
  | 10 => ("JarCannery", "hasSnapshot", "Z", false)
  | 11 => ("JarCannery", "lastErrorPosition", "I", false)
  | _ => ("JarCannery", "lastFailedCommand", "I", false)
def tyX11 : Nat → FieldType := fun k => match k with
  | 0 => .object "JarCannery$State"
  | 1 => .object "JarCannery$State"
  | 2 => .object "JarCannery$State"
  | 3 => .object "JarCannery$History"
  | 4 => .object "JarCannery$Text"
  | 5 => .object "JarCannery$Text"
  | 6 => .object "JarCannery$Text"
  | 7 => .object "JarCannery$CommandText"
  | 8 => .object "JarCannery$Distances"
  | 9 => .object "JarCannery$Crates"
  | 10 => .boolean
  | 11 => .int
  | _ => .int
abbrev wsX110 : List Cond := u_ws RX11 TX11 13
theorem nmX11 : ∀ a, a < 13 → ∀ b, b < 13 → a ≠ b → (TX11 a).2.1 ≠ (TX11 b).2.1 := by decide +kernel
theorem tyX11_ok : ∀ k, k < 13 → parseFieldDescriptor (TX11 k).2.2.1 = some (tyX11 k) := by decide +kernel
abbrev cX11_init : ByteArray := prog_1_method_1_code
def yX11_init : MethodName := ⟨RX11, "<init>", "()V"⟩
abbrev cX11_addRaw : ByteArray := prog_1_method_2_code
def yX11_addRaw : MethodName := ⟨RX11, "addRaw", "()I"⟩
abbrev cX11_mix : ByteArray := prog_1_method_3_code
def yX11_mix : MethodName := ⟨RX11, "mix", "(II)I"⟩
abbrev cX11_rawCount : ByteArray := prog_1_method_4_code
def yX11_rawCount : MethodName := ⟨RX11, "rawCount", "()I"⟩
abbrev cX11_batchCount : ByteArray := prog_1_method_5_code
def yX11_batchCount : MethodName := ⟨RX11, "batchCount", "()I"⟩
abbrev cX11_isFaulty : ByteArray := prog_1_method_6_code
def yX11_isFaulty : MethodName := ⟨RX11, "isFaulty", "(I)Z"⟩
abbrev cX11_strengthOf : ByteArray := prog_1_method_7_code
def yX11_strengthOf : MethodName := ⟨RX11, "strengthOf", "(I)I"⟩
abbrev cX11_batchContains : ByteArray := prog_1_method_8_code
def yX11_batchContains : MethodName := ⟨RX11, "batchContains", "(II)Z"⟩
abbrev cX11_addLabel : ByteArray := prog_1_method_9_code
def yX11_addLabel : MethodName := ⟨RX11, "addLabel", "()I"⟩
abbrev cX11_labelCount : ByteArray := prog_1_method_10_code
def yX11_labelCount : MethodName := ⟨RX11, "labelCount", "()I"⟩
abbrev cX11_labelLength : ByteArray := prog_1_method_11_code
def yX11_labelLength : MethodName := ⟨RX11, "labelLength", "(I)I"⟩
abbrev cX11_labelLetter : ByteArray := prog_1_method_12_code
def yX11_labelLetter : MethodName := ⟨RX11, "labelLetter", "(II)C"⟩
abbrev cX11_scan : ByteArray := prog_1_method_13_code
def yX11_scan : MethodName := ⟨RX11, "scan", "()I"⟩
abbrev cX11_distanceTo : ByteArray := prog_1_method_14_code
def yX11_distanceTo : MethodName := ⟨RX11, "distanceTo", "(I)I"⟩
abbrev cX11_distanceByLetters : ByteArray := prog_1_method_15_code
def yX11_distanceByLetters : MethodName := ⟨RX11, "distanceByLetters", "(I)I"⟩
abbrev cX11_fill : ByteArray := prog_1_method_16_code
def yX11_fill : MethodName := ⟨RX11, "fill", "(IIII)I"⟩
abbrev cX11_ship : ByteArray := prog_1_method_17_code
def yX11_ship : MethodName := ⟨RX11, "ship", "(I)I"⟩
abbrev cX11_pass : ByteArray := prog_1_method_18_code
def yX11_pass : MethodName := ⟨RX11, "pass", "(I)I"⟩
abbrev cX11_recall : ByteArray := prog_1_method_19_code
def yX11_recall : MethodName := ⟨RX11, "recall", "(I)I"⟩
abbrev cX11_lotCount : ByteArray := prog_1_method_20_code
def yX11_lotCount : MethodName := ⟨RX11, "lotCount", "()I"⟩
abbrev cX11_lotAt : ByteArray := prog_1_method_21_code
def yX11_lotAt : MethodName := ⟨RX11, "lotAt", "(I)I"⟩
abbrev cX11_jarsOf : ByteArray := prog_1_method_22_code
def yX11_jarsOf : MethodName := ⟨RX11, "jarsOf", "(I)I"⟩
abbrev cX11_labelOf : ByteArray := prog_1_method_23_code
def yX11_labelOf : MethodName := ⟨RX11, "labelOf", "(I)I"⟩
abbrev cX11_strengthOfLot : ByteArray := prog_1_method_24_code
def yX11_strengthOfLot : MethodName := ⟨RX11, "strengthOfLot", "(I)I"⟩
abbrev cX11_pressureOf : ByteArray := prog_1_method_25_code
def yX11_pressureOf : MethodName := ⟨RX11, "pressureOf", "(I)I"⟩
abbrev cX11_lotContains : ByteArray := prog_1_method_26_code
def yX11_lotContains : MethodName := ⟨RX11, "lotContains", "(II)Z"⟩
abbrev cX11_daysUntilPop : ByteArray := prog_1_method_27_code
def yX11_daysUntilPop : MethodName := ⟨RX11, "daysUntilPop", "(I)I"⟩
abbrev cX11_daysByDivision : ByteArray := prog_1_method_28_code
def yX11_daysByDivision : MethodName := ⟨RX11, "daysByDivision", "(I)I"⟩
abbrev cX11_lotByPressure : ByteArray := prog_1_method_29_code
def yX11_lotByPressure : MethodName := ⟨RX11, "lotByPressure", "(I)I"⟩
abbrev cX11_affectedLots : ByteArray := prog_1_method_30_code
def yX11_affectedLots : MethodName := ⟨RX11, "affectedLots", "(I)I"⟩
abbrev cX11_affectedBySets : ByteArray := prog_1_method_31_code
def yX11_affectedBySets : MethodName := ⟨RX11, "affectedBySets", "(I)I"⟩
abbrev cX11_leastCrates : ByteArray := prog_1_method_32_code
def yX11_leastCrates : MethodName := ⟨RX11, "leastCrates", "(I)I"⟩
abbrev cX11_leastCratesByTrial : ByteArray := prog_1_method_33_code
def yX11_leastCratesByTrial : MethodName := ⟨RX11, "leastCratesByTrial", "(I)I"⟩
abbrev cX11_fewestTests : ByteArray := prog_1_method_34_code
def yX11_fewestTests : MethodName := ⟨RX11, "fewestTests", "()I"⟩
abbrev cX11_fewestTestsByBranching : ByteArray := prog_1_method_35_code
def yX11_fewestTestsByBranching : MethodName := ⟨RX11, "fewestTestsByBranching", "()I"⟩
abbrev cX11_isTested : ByteArray := prog_1_method_36_code
def yX11_isTested : MethodName := ⟨RX11, "isTested", "(I)Z"⟩
abbrev cX11_dayCount : ByteArray := prog_1_method_37_code
def yX11_dayCount : MethodName := ⟨RX11, "dayCount", "()I"⟩
abbrev cX11_filled : ByteArray := prog_1_method_38_code
def yX11_filled : MethodName := ⟨RX11, "filled", "()I"⟩
abbrev cX11_stored : ByteArray := prog_1_method_39_code
def yX11_stored : MethodName := ⟨RX11, "stored", "()I"⟩
abbrev cX11_shipped : ByteArray := prog_1_method_40_code
def yX11_shipped : MethodName := ⟨RX11, "shipped", "()I"⟩
abbrev cX11_recalled : ByteArray := prog_1_method_41_code
def yX11_recalled : MethodName := ⟨RX11, "recalled", "()I"⟩
abbrev cX11_spoiled : ByteArray := prog_1_method_42_code
def yX11_spoiled : MethodName := ⟨RX11, "spoiled", "()I"⟩
abbrev cX11_meanPressure : ByteArray := prog_1_method_43_code
def yX11_meanPressure : MethodName := ⟨RX11, "meanPressure", "()D"⟩
abbrev cX11_shippedShare : ByteArray := prog_1_method_44_code
def yX11_shippedShare : MethodName := ⟨RX11, "shippedShare", "()F"⟩
abbrev cX11_writeLot : ByteArray := prog_1_method_45_code
def yX11_writeLot : MethodName := ⟨RX11, "writeLot", "(I)I"⟩
abbrev cX11_writeRaws : ByteArray := prog_1_method_46_code
def yX11_writeRaws : MethodName := ⟨RX11, "writeRaws", "()I"⟩
abbrev cX11_lineAt : ByteArray := prog_1_method_47_code
def yX11_lineAt : MethodName := ⟨RX11, "lineAt", "(I)C"⟩
abbrev cX11_isConsistent : ByteArray := prog_1_method_48_code
def yX11_isConsistent : MethodName := ⟨RX11, "isConsistent", "()Z"⟩
abbrev cX11_type : ByteArray := prog_1_method_49_code
def yX11_type : MethodName := ⟨RX11, "type", "(C)I"⟩
abbrev cX11_clearText : ByteArray := prog_1_method_50_code
def yX11_clearText : MethodName := ⟨RX11, "clearText", "()I"⟩
abbrev cX11_execute : ByteArray := prog_1_method_51_code
def yX11_execute : MethodName := ⟨RX11, "execute", "()I"⟩
abbrev cX11_errorPosition : ByteArray := prog_1_method_52_code
def yX11_errorPosition : MethodName := ⟨RX11, "errorPosition", "()I"⟩
abbrev cX11_failedCommand : ByteArray := prog_1_method_53_code
def yX11_failedCommand : MethodName := ⟨RX11, "failedCommand", "()I"⟩
abbrev cX11_undo : ByteArray := prog_1_method_54_code
def yX11_undo : MethodName := ⟨RX11, "undo", "()I"⟩
abbrev cX11_save : ByteArray := prog_1_method_55_code
def yX11_save : MethodName := ⟨RX11, "save", "()I"⟩
abbrev cX11_restore : ByteArray := prog_1_method_56_code
def yX11_restore : MethodName := ⟨RX11, "restore", "()I"⟩
abbrev cX11_setHas : ByteArray := prog_1_method_57_code
def yX11_setHas : MethodName := ⟨RX11, "setHas", "(II)Z"⟩
abbrev cX11_demandAllowed : ByteArray := prog_1_method_58_code
def yX11_demandAllowed : MethodName := ⟨RX11, "demandAllowed", "(I)V"⟩
abbrev cX11_demandRaw : ByteArray := prog_1_method_59_code
def yX11_demandRaw : MethodName := ⟨RX11, "demandRaw", "(I)V"⟩
abbrev cX11_demandBatch : ByteArray := prog_1_method_60_code
def yX11_demandBatch : MethodName := ⟨RX11, "demandBatch", "(I)V"⟩
abbrev cX11_demandLabel : ByteArray := prog_1_method_61_code
def yX11_demandLabel : MethodName := ⟨RX11, "demandLabel", "(I)V"⟩
abbrev cX11_demandLot : ByteArray := prog_1_method_62_code
def yX11_demandLot : MethodName := ⟨RX11, "demandLot", "(I)I"⟩
abbrev cX11_demandScannedText : ByteArray := prog_1_method_63_code
def yX11_demandScannedText : MethodName := ⟨RX11, "demandScannedText", "()V"⟩
abbrev cX11_demandCapacity : ByteArray := prog_1_method_64_code
def yX11_demandCapacity : MethodName := ⟨RX11, "demandCapacity", "(I)V"⟩
abbrev cX11_takeWord : ByteArray := prog_1_method_65_code
def yX11_takeWord : MethodName := ⟨RX11, "takeWord", "(I)V"⟩
abbrev cX11_tableDistance : ByteArray := prog_1_method_66_code
def yX11_tableDistance : MethodName := ⟨RX11, "tableDistance", "(I)I"⟩
abbrev cX11_signOfRaw : ByteArray := prog_1_method_67_code
def yX11_signOfRaw : MethodName := ⟨RX11, "signOfRaw", "(II)C"⟩
abbrev cX11_recallsAgree : ByteArray := prog_1_method_68_code
def yX11_recallsAgree : MethodName := ⟨RX11, "recallsAgree", "()Z"⟩
abbrev cX11_popsAgree : ByteArray := prog_1_method_69_code
def yX11_popsAgree : MethodName := ⟨RX11, "popsAgree", "()Z"⟩
abbrev cX11_cratesAgree : ByteArray := prog_1_method_70_code
def yX11_cratesAgree : MethodName := ⟨RX11, "cratesAgree", "(I)Z"⟩
abbrev cX11_accountsAgree : ByteArray := prog_1_method_71_code
def yX11_accountsAgree : MethodName := ⟨RX11, "accountsAgree", "()Z"⟩
abbrev cX11_performAll : ByteArray := prog_1_method_72_code
def yX11_performAll : MethodName := ⟨RX11, "performAll", "()I"⟩
abbrev cX11_refusalOf : ByteArray := prog_1_method_73_code
def yX11_refusalOf : MethodName := ⟨RX11, "refusalOf", "(I)I"⟩
abbrev cX11_perform : ByteArray := prog_1_method_74_code
def yX11_perform : MethodName := ⟨RX11, "perform", "(I)V"⟩
def RX12 : String := "JarCanneryModel"
def TX12 : u_T := fun k => match k with
  | 0 => ("JarCanneryModel", "g", "[I", true)
  | 1 => ("JarCanneryModel", "kept", "[I", true)
  | 2 => ("JarCanneryModel", "saved", "[I", true)
  | 3 => ("JarCanneryModel", "before", "[I", true)
  | 4 => ("JarCanneryModel", "isSaved", "Z", false)
  | 5 => ("JarCanneryModel", "changes", "I", false)
  | 6 => ("JarCanneryModel", "isWithin", "Z", false)
  | 7 => ("JarCanneryModel", "code", "I", false)
  | 8 => ("JarCanneryModel", "input", "[I", true)
  | 9 => ("JarCanneryModel", "length", "I", false)
  | 10 => ("JarCanneryModel", "fault", "I", false)
  | 11 => ("JarCanneryModel", "failed", "I", false)
  | 12 => ("JarCanneryModel", "signs", "[C", true)
  | 13 => ("JarCanneryModel", "signMany", "I", false)
  | 14 => ("JarCanneryModel", "row", "[I", true)
  | 15 => ("JarCanneryModel", "most", "[I", true)
  | 16 => ("JarCanneryModel", "at", "I", false)
  | 17 => ("JarCanneryModel", "told", "[I", true)
  | _ => ("JarCanneryModel", "toldMany", "I", false)
def tyX12 : Nat → FieldType := fun k => match k with
  | 0 => .array .int
  | 1 => .array .int
  | 2 => .array .int
  | 3 => .array .int
  | 4 => .boolean
  | 5 => .int
  | 6 => .boolean
  | 7 => .int
  | 8 => .array .int
  | 9 => .int
  | 10 => .int
  | 11 => .int
  | 12 => .array .char
  | 13 => .int
  | 14 => .array .int
  | 15 => .array .int
  | 16 => .int
  | 17 => .array .int
  | _ => .int
abbrev wsX120 : List Cond := u_ws RX12 TX12 19
theorem nmX12 : ∀ a, a < 19 → ∀ b, b < 19 → a ≠ b → (TX12 a).2.1 ≠ (TX12 b).2.1 := by decide +kernel
theorem tyX12_ok : ∀ k, k < 19 → parseFieldDescriptor (TX12 k).2.2.1 = some (tyX12 k) := by decide +kernel
abbrev cX12_init : ByteArray := prog_14_method_1_code
def yX12_init : MethodName := ⟨RX12, "<init>", "()V"⟩
abbrev cX12_thrown : ByteArray := prog_14_method_2_code
def yX12_thrown : MethodName := ⟨RX12, "thrown", "()I"⟩
abbrev cX12_fails : ByteArray := prog_14_method_3_code
def yX12_fails : MethodName := ⟨RX12, "fails", "(I)Z"⟩
abbrev cX12_in : ByteArray := prog_14_method_4_code
def yX12_in : MethodName := ⟨RX12, "in", "(III)Z"⟩
abbrev cX12_least : ByteArray := prog_14_method_5_code
def yX12_least : MethodName := ⟨RX12, "least", "(II)I"⟩
abbrev cX12_copies : ByteArray := prog_14_method_6_code
def yX12_copies : MethodName := ⟨RX12, "copies", "([II[II)V"⟩
abbrev cX12_keeps : ByteArray := prog_14_method_7_code
def yX12_keeps : MethodName := ⟨RX12, "keeps", "([I)V"⟩
abbrev cX12_bits : ByteArray := prog_14_method_8_code
def yX12_bits : MethodName := ⟨RX12, "bits", "(I)I"⟩
abbrev cX12_isRaw : ByteArray := prog_14_method_9_code
def yX12_isRaw : MethodName := ⟨RX12, "isRaw", "(I)Z"⟩
abbrev cX12_isBatch : ByteArray := prog_14_method_10_code
def yX12_isBatch : MethodName := ⟨RX12, "isBatch", "(I)Z"⟩
abbrev cX12_of : ByteArray := prog_14_method_11_code
def yX12_of : MethodName := ⟨RX12, "of", "(II)I"⟩
abbrev cX12_addRaw : ByteArray := prog_14_method_12_code
def yX12_addRaw : MethodName := ⟨RX12, "addRaw", "()I"⟩
abbrev cX12_mix : ByteArray := prog_14_method_13_code
def yX12_mix : MethodName := ⟨RX12, "mix", "(II)I"⟩
abbrev cX12_rawCount : ByteArray := prog_14_method_14_code
def yX12_rawCount : MethodName := ⟨RX12, "rawCount", "()I"⟩
abbrev cX12_batchCount : ByteArray := prog_14_method_15_code
def yX12_batchCount : MethodName := ⟨RX12, "batchCount", "()I"⟩
abbrev cX12_isFaulty : ByteArray := prog_14_method_16_code
def yX12_isFaulty : MethodName := ⟨RX12, "isFaulty", "(I)Z"⟩
abbrev cX12_strengthOf : ByteArray := prog_14_method_17_code
def yX12_strengthOf : MethodName := ⟨RX12, "strengthOf", "(I)I"⟩
abbrev cX12_batchContains : ByteArray := prog_14_method_18_code
def yX12_batchContains : MethodName := ⟨RX12, "batchContains", "(II)Z"⟩
abbrev cX12_isLabel : ByteArray := prog_14_method_19_code
def yX12_isLabel : MethodName := ⟨RX12, "isLabel", "(I)Z"⟩
abbrev cX12_sign : ByteArray := prog_14_method_20_code
def yX12_sign : MethodName := ⟨RX12, "sign", "(II)I"⟩
abbrev cX12_isWritten : ByteArray := prog_14_method_21_code
def yX12_isWritten : MethodName := ⟨RX12, "isWritten", "(I)Z"⟩
abbrev cX12_isThere : ByteArray := prog_14_method_22_code
def yX12_isThere : MethodName := ⟨RX12, "isThere", "()Z"⟩
abbrev cX12_addLabel : ByteArray := prog_14_method_23_code
def yX12_addLabel : MethodName := ⟨RX12, "addLabel", "()I"⟩
abbrev cX12_labelCount : ByteArray := prog_14_method_24_code
def yX12_labelCount : MethodName := ⟨RX12, "labelCount", "()I"⟩
abbrev cX12_labelLength : ByteArray := prog_14_method_25_code
def yX12_labelLength : MethodName := ⟨RX12, "labelLength", "(I)I"⟩
abbrev cX12_labelLetter : ByteArray := prog_14_method_26_code
def yX12_labelLetter : MethodName := ⟨RX12, "labelLetter", "(II)C"⟩
abbrev cX12_apart : ByteArray := prog_14_method_27_code
def yX12_apart : MethodName := ⟨RX12, "apart", "(I)I"⟩
abbrev cX12_scan : ByteArray := prog_14_method_28_code
def yX12_scan : MethodName := ⟨RX12, "scan", "()I"⟩
abbrev cX12_distance : ByteArray := prog_14_method_29_code
def yX12_distance : MethodName := ⟨RX12, "distance", "(I)I"⟩
abbrev cX12_distanceTo : ByteArray := prog_14_method_30_code
def yX12_distanceTo : MethodName := ⟨RX12, "distanceTo", "(I)I"⟩
abbrev cX12_distanceByLetters : ByteArray := prog_14_method_31_code
def yX12_distanceByLetters : MethodName := ⟨RX12, "distanceByLetters", "(I)I"⟩
abbrev cX12_by : ByteArray := prog_14_method_32_code
def yX12_by : MethodName := ⟨RX12, "by", "(II)I"⟩
abbrev cX12_placeOf : ByteArray := prog_14_method_33_code
def yX12_placeOf : MethodName := ⟨RX12, "placeOf", "(I)I"⟩
abbrev cX12_inside : ByteArray := prog_14_method_34_code
def yX12_inside : MethodName := ⟨RX12, "inside", "(I)I"⟩
abbrev cX12_strong : ByteArray := prog_14_method_35_code
def yX12_strong : MethodName := ⟨RX12, "strong", "(I)I"⟩
abbrev cX12_grows : ByteArray := prog_14_method_36_code
def yX12_grows : MethodName := ⟨RX12, "grows", "(I)I"⟩
abbrev cX12_goes : ByteArray := prog_14_method_37_code
def yX12_goes : MethodName := ⟨RX12, "goes", "(I)I"⟩
abbrev cX12_fill : ByteArray := prog_14_method_38_code
def yX12_fill : MethodName := ⟨RX12, "fill", "(IIII)I"⟩
abbrev cX12_ship : ByteArray := prog_14_method_39_code
def yX12_ship : MethodName := ⟨RX12, "ship", "(I)I"⟩
abbrev cX12_dawns : ByteArray := prog_14_method_40_code
def yX12_dawns : MethodName := ⟨RX12, "dawns", "()I"⟩
abbrev cX12_pass : ByteArray := prog_14_method_41_code
def yX12_pass : MethodName := ⟨RX12, "pass", "(I)I"⟩
abbrev cX12_recall : ByteArray := prog_14_method_42_code
def yX12_recall : MethodName := ⟨RX12, "recall", "(I)I"⟩
abbrev cX12_lotCount : ByteArray := prog_14_method_43_code
def yX12_lotCount : MethodName := ⟨RX12, "lotCount", "()I"⟩
abbrev cX12_lotAt : ByteArray := prog_14_method_44_code
def yX12_lotAt : MethodName := ⟨RX12, "lotAt", "(I)I"⟩
abbrev cX12_isLost : ByteArray := prog_14_method_45_code
def yX12_isLost : MethodName := ⟨RX12, "isLost", "(I)Z"⟩
abbrev cX12_jarsOf : ByteArray := prog_14_method_46_code
def yX12_jarsOf : MethodName := ⟨RX12, "jarsOf", "(I)I"⟩
abbrev cX12_labelOf : ByteArray := prog_14_method_47_code
def yX12_labelOf : MethodName := ⟨RX12, "labelOf", "(I)I"⟩
abbrev cX12_strengthOfLot : ByteArray := prog_14_method_48_code
def yX12_strengthOfLot : MethodName := ⟨RX12, "strengthOfLot", "(I)I"⟩
abbrev cX12_pressureOf : ByteArray := prog_14_method_49_code
def yX12_pressureOf : MethodName := ⟨RX12, "pressureOf", "(I)I"⟩
abbrev cX12_lotContains : ByteArray := prog_14_method_50_code
def yX12_lotContains : MethodName := ⟨RX12, "lotContains", "(II)Z"⟩
abbrev cX12_toPop : ByteArray := prog_14_method_51_code
def yX12_toPop : MethodName := ⟨RX12, "toPop", "(I)I"⟩
abbrev cX12_daysUntilPop : ByteArray := prog_14_method_52_code
def yX12_daysUntilPop : MethodName := ⟨RX12, "daysUntilPop", "(I)I"⟩
abbrev cX12_daysByDivision : ByteArray := prog_14_method_53_code
def yX12_daysByDivision : MethodName := ⟨RX12, "daysByDivision", "(I)I"⟩
abbrev cX12_lotByPressure : ByteArray := prog_14_method_54_code
def yX12_lotByPressure : MethodName := ⟨RX12, "lotByPressure", "(I)I"⟩
abbrev cX12_affected : ByteArray := prog_14_method_55_code
def yX12_affected : MethodName := ⟨RX12, "affected", "(I)I"⟩
abbrev cX12_affectedLots : ByteArray := prog_14_method_56_code
def yX12_affectedLots : MethodName := ⟨RX12, "affectedLots", "(I)I"⟩
abbrev cX12_affectedBySets : ByteArray := prog_14_method_57_code
def yX12_affectedBySets : MethodName := ⟨RX12, "affectedBySets", "(I)I"⟩
abbrev cX12_crates : ByteArray := prog_14_method_58_code
def yX12_crates : MethodName := ⟨RX12, "crates", "(I)I"⟩
abbrev cX12_leastCrates : ByteArray := prog_14_method_59_code
def yX12_leastCrates : MethodName := ⟨RX12, "leastCrates", "(I)I"⟩
abbrev cX12_leastCratesByTrial : ByteArray := prog_14_method_60_code
def yX12_leastCratesByTrial : MethodName := ⟨RX12, "leastCratesByTrial", "(I)I"⟩
abbrev cX12_isTest : ByteArray := prog_14_method_61_code
def yX12_isTest : MethodName := ⟨RX12, "isTest", "(I)Z"⟩
abbrev cX12_best : ByteArray := prog_14_method_62_code
def yX12_best : MethodName := ⟨RX12, "best", "()I"⟩
abbrev cX12_fewestTests : ByteArray := prog_14_method_63_code
def yX12_fewestTests : MethodName := ⟨RX12, "fewestTests", "()I"⟩
abbrev cX12_fewestTestsByBranching : ByteArray := prog_14_method_64_code
def yX12_fewestTestsByBranching : MethodName := ⟨RX12, "fewestTestsByBranching", "()I"⟩
abbrev cX12_isTested : ByteArray := prog_14_method_65_code
def yX12_isTested : MethodName := ⟨RX12, "isTested", "(I)Z"⟩
abbrev cX12_dayCount : ByteArray := prog_14_method_66_code
def yX12_dayCount : MethodName := ⟨RX12, "dayCount", "()I"⟩
abbrev cX12_filled : ByteArray := prog_14_method_67_code
def yX12_filled : MethodName := ⟨RX12, "filled", "()I"⟩
abbrev cX12_keptJars : ByteArray := prog_14_method_68_code
def yX12_keptJars : MethodName := ⟨RX12, "keptJars", "()I"⟩
abbrev cX12_stored : ByteArray := prog_14_method_69_code
def yX12_stored : MethodName := ⟨RX12, "stored", "()I"⟩
abbrev cX12_shipped : ByteArray := prog_14_method_70_code
def yX12_shipped : MethodName := ⟨RX12, "shipped", "()I"⟩
abbrev cX12_recalled : ByteArray := prog_14_method_71_code
def yX12_recalled : MethodName := ⟨RX12, "recalled", "()I"⟩
abbrev cX12_spoiled : ByteArray := prog_14_method_72_code
def yX12_spoiled : MethodName := ⟨RX12, "spoiled", "()I"⟩
abbrev cX12_meanPressure : ByteArray := prog_14_method_73_code
def yX12_meanPressure : MethodName := ⟨RX12, "meanPressure", "()D"⟩
abbrev cX12_shippedShare : ByteArray := prog_14_method_74_code
def yX12_shippedShare : MethodName := ⟨RX12, "shippedShare", "()F"⟩
abbrev cX12_writes : ByteArray := prog_14_method_75_code
def yX12_writes : MethodName := ⟨RX12, "writes", "(I)V"⟩
abbrev cX12_writesNumber : ByteArray := prog_14_method_76_code
def yX12_writesNumber : MethodName := ⟨RX12, "writesNumber", "(I)V"⟩
abbrev cX12_writeLot : ByteArray := prog_14_method_77_code
def yX12_writeLot : MethodName := ⟨RX12, "writeLot", "(I)I"⟩
abbrev cX12_writeRaws : ByteArray := prog_14_method_78_code
def yX12_writeRaws : MethodName := ⟨RX12, "writeRaws", "()I"⟩
abbrev cX12_lineAt : ByteArray := prog_14_method_79_code
def yX12_lineAt : MethodName := ⟨RX12, "lineAt", "(I)C"⟩
abbrev cX12_isConsistent : ByteArray := prog_14_method_80_code
def yX12_isConsistent : MethodName := ⟨RX12, "isConsistent", "()Z"⟩
abbrev cX12_type : ByteArray := prog_14_method_81_code
def yX12_type : MethodName := ⟨RX12, "type", "(C)I"⟩
abbrev cX12_clearText : ByteArray := prog_14_method_82_code
def yX12_clearText : MethodName := ⟨RX12, "clearText", "()I"⟩
abbrev cX12_here : ByteArray := prog_14_method_83_code
def yX12_here : MethodName := ⟨RX12, "here", "()I"⟩
abbrev cX12_skips : ByteArray := prog_14_method_84_code
def yX12_skips : MethodName := ⟨RX12, "skips", "(I)Z"⟩
abbrev cX12_isWord : ByteArray := prog_14_method_85_code
def yX12_isWord : MethodName := ⟨RX12, "isWord", "(ILjava/lang/String;)Z"⟩
abbrev cX12_figures : ByteArray := prog_14_method_86_code
def yX12_figures : MethodName := ⟨RX12, "figures", "(II)Z"⟩
abbrev cX12_commandHere : ByteArray := prog_14_method_87_code
def yX12_commandHere : MethodName := ⟨RX12, "commandHere", "()Z"⟩
abbrev cX12_isText : ByteArray := prog_14_method_88_code
def yX12_isText : MethodName := ⟨RX12, "isText", "()Z"⟩
abbrev cX12_carries : ByteArray := prog_14_method_89_code
def yX12_carries : MethodName := ⟨RX12, "carries", "(I)I"⟩
abbrev cX12_execute : ByteArray := prog_14_method_90_code
def yX12_execute : MethodName := ⟨RX12, "execute", "()I"⟩
abbrev cX12_errorPosition : ByteArray := prog_14_method_91_code
def yX12_errorPosition : MethodName := ⟨RX12, "errorPosition", "()I"⟩
abbrev cX12_failedCommand : ByteArray := prog_14_method_92_code
def yX12_failedCommand : MethodName := ⟨RX12, "failedCommand", "()I"⟩
abbrev cX12_undo : ByteArray := prog_14_method_93_code
def yX12_undo : MethodName := ⟨RX12, "undo", "()I"⟩
abbrev cX12_save : ByteArray := prog_14_method_94_code
def yX12_save : MethodName := ⟨RX12, "save", "()I"⟩
abbrev cX12_restore : ByteArray := prog_14_method_95_code
def yX12_restore : MethodName := ⟨RX12, "restore", "()I"⟩
def RJx145de : String := "java/io/Serializable"
def TJx145de : u_T := fun k => match k with
  | _ => ("", "", "", false)
def tyJx145de : Nat → FieldType := fun k => match k with
  | _ => .int
abbrev wsJx145de0 : List Cond := u_ws RJx145de TJx145de 0
theorem nmJx145de : ∀ a, a < 0 → ∀ b, b < 0 → a ≠ b → (TJx145de a).2.1 ≠ (TJx145de b).2.1 := by decide +kernel
theorem tyJx145de_ok : ∀ k, k < 0 → parseFieldDescriptor (TJx145de k).2.2.1 = some (tyJx145de k) := by decide +kernel
def RJx00060 : String := "java/lang/ArrayIndexOutOfBoundsException"
def TJx00060 : u_T := fun k => match k with
  | 0 => ("java/lang/Throwable", "backtrace", "Ljava/lang/Object;", false)
  | 1 => ("java/lang/Throwable", "detailMessage", "Ljava/lang/String;", false)
  | 2 => ("java/lang/Throwable", "cause", "Ljava/lang/Throwable;", false)
  | 3 => ("java/lang/Throwable", "stackTrace", "[Ljava/lang/StackTraceElement;", false)
  | 4 => ("java/lang/Throwable", "depth", "I", false)
  | _ => ("java/lang/Throwable", "suppressedExceptions", "Ljava/util/List;", false)
def tyJx00060 : Nat → FieldType := fun k => match k with
  | 0 => .object "java/lang/Object"
  | 1 => .object "java/lang/String"
  | 2 => .object "java/lang/Throwable"
  | 3 => .array (.object "java/lang/StackTraceElement")
  | 4 => .int
  | _ => .object "java/util/List"
abbrev wsJx000600 : List Cond := u_ws RJx00060 TJx00060 6
theorem nmJx00060 : ∀ a, a < 6 → ∀ b, b < 6 → a ≠ b → (TJx00060 a).2.1 ≠ (TJx00060 b).2.1 := by decide +kernel
theorem tyJx00060_ok : ∀ k, k < 6 → parseFieldDescriptor (TJx00060 k).2.2.1 = some (tyJx00060 k) := by decide +kernel
abbrev cJx00060_init_a7421 : ByteArray := prog_17_method_2_code
def yJx00060_init_a7421 : MethodName := ⟨RJx00060, "<init>", "(Ljava/lang/String;)V"⟩
def RJx9f9b0 : String := "java/lang/CharSequence"
def TJx9f9b0 : u_T := fun k => match k with
  | _ => ("", "", "", false)
def tyJx9f9b0 : Nat → FieldType := fun k => match k with
  | _ => .int
abbrev wsJx9f9b00 : List Cond := u_ws RJx9f9b0 TJx9f9b0 0
theorem nmJx9f9b0 : ∀ a, a < 0 → ∀ b, b < 0 → a ≠ b → (TJx9f9b0 a).2.1 ≠ (TJx9f9b0 b).2.1 := by decide +kernel
theorem tyJx9f9b0_ok : ∀ k, k < 0 → parseFieldDescriptor (TJx9f9b0 k).2.2.1 = some (tyJx9f9b0 k) := by decide +kernel
def RJxb160c : String := "java/lang/Comparable"
def TJxb160c : u_T := fun k => match k with
  | _ => ("", "", "", false)
def tyJxb160c : Nat → FieldType := fun k => match k with
  | _ => .int
abbrev wsJxb160c0 : List Cond := u_ws RJxb160c TJxb160c 0
theorem nmJxb160c : ∀ a, a < 0 → ∀ b, b < 0 → a ≠ b → (TJxb160c a).2.1 ≠ (TJxb160c b).2.1 := by decide +kernel
theorem tyJxb160c_ok : ∀ k, k < 0 → parseFieldDescriptor (TJxb160c k).2.2.1 = some (tyJxb160c k) := by decide +kernel
def RJ6 : String := "java/lang/Integer"
def TJ6 : u_T := fun k => match k with
  | _ => ("", "", "", false)
def tyJ6 : Nat → FieldType := fun k => match k with
  | _ => .int
abbrev wsJ60 : List Cond := u_ws RJ6 TJ6 0
theorem nmJ6 : ∀ a, a < 0 → ∀ b, b < 0 → a ≠ b → (TJ6 a).2.1 ≠ (TJ6 b).2.1 := by decide +kernel
theorem tyJ6_ok : ∀ k, k < 0 → parseFieldDescriptor (TJ6 k).2.2.1 = some (tyJ6 k) := by decide +kernel
abbrev cJ6_bitCount_0f7a4 : ByteArray := prog_24_method_49_code
def yJ6_bitCount_0f7a4 : MethodName := ⟨RJ6, "bitCount", "(I)I"⟩
def RJ9 : String := "java/lang/Math"
def TJ9 : u_T := fun k => match k with
  | _ => ("", "", "", false)
def tyJ9 : Nat → FieldType := fun k => match k with
  | _ => .int
abbrev wsJ90 : List Cond := u_ws RJ9 TJ9 0
theorem nmJ9 : ∀ a, a < 0 → ∀ b, b < 0 → a ≠ b → (TJ9 a).2.1 ≠ (TJ9 b).2.1 := by decide +kernel
theorem tyJ9_ok : ∀ k, k < 0 → parseFieldDescriptor (TJ9 k).2.2.1 = some (tyJ9 k) := by decide +kernel
abbrev cJ9_max_7cf53 : ByteArray := prog_25_method_65_code
def yJ9_max_7cf53 : MethodName := ⟨RJ9, "max", "(II)I"⟩
abbrev cJ9_min_7cf53 : ByteArray := prog_25_method_69_code
def yJ9_min_7cf53 : MethodName := ⟨RJ9, "min", "(II)I"⟩
def RJ0 : String := "java/lang/String"
def TJ0 : u_T := fun k => match k with
  | 0 => ("java/lang/String", "value", "[B", true)
  | _ => ("java/lang/String", "coder", "B", true)
def tyJ0 : Nat → FieldType := fun k => match k with
  | 0 => .array .byte
  | _ => .byte
abbrev wsJ00 : List Cond := u_ws RJ0 TJ0 2
theorem nmJ0 : ∀ a, a < 2 → ∀ b, b < 2 → a ≠ b → (TJ0 a).2.1 ≠ (TJ0 b).2.1 := by decide +kernel
theorem tyJ0_ok : ∀ k, k < 2 → parseFieldDescriptor (TJ0 k).2.2.1 = some (tyJ0 k) := by decide +kernel
abbrev cJ0_length_8abf5 : ByteArray := prog_27_method_54_code
def yJ0_length_8abf5 : MethodName := ⟨RJ0, "length", "()I"⟩
abbrev cJ0_charAt_5068e : ByteArray := prog_27_method_56_code
def yJ0_charAt_5068e : MethodName := ⟨RJ0, "charAt", "(I)C"⟩
abbrev cJ0_coder_7d493 : ByteArray := prog_27_method_152_code
def yJ0_coder_7d493 : MethodName := ⟨RJ0, "coder", "()B"⟩
abbrev cJ0_isLatin1_aae02 : ByteArray := prog_27_method_154_code
def yJ0_isLatin1_aae02 : MethodName := ⟨RJ0, "isLatin1", "()Z"⟩
abbrev cJ0_checkIndex_df160 : ByteArray := prog_27_method_155_code
def yJ0_checkIndex_df160 : MethodName := ⟨RJ0, "checkIndex", "(II)V"⟩
def RJ1 : String := "java/lang/StringLatin1"
def TJ1 : u_T := fun k => match k with
  | _ => ("", "", "", false)
def tyJ1 : Nat → FieldType := fun k => match k with
  | _ => .int
abbrev wsJ10 : List Cond := u_ws RJ1 TJ1 0
theorem nmJ1 : ∀ a, a < 0 → ∀ b, b < 0 → a ≠ b → (TJ1 a).2.1 ≠ (TJ1 b).2.1 := by decide +kernel
theorem tyJ1_ok : ∀ k, k < 0 → parseFieldDescriptor (TJ1 k).2.2.1 = some (tyJ1 k) := by decide +kernel
abbrev cJ1_charAt_3b067 : ByteArray := prog_28_method_2_code
def yJ1_charAt_3b067 : MethodName := ⟨RJ1, "charAt", "([BI)C"⟩
def RJ2 : String := "java/lang/StringUTF16"
def TJ2 : u_T := fun k => match k with
  | _ => ("", "", "", false)
def tyJ2 : Nat → FieldType := fun k => match k with
  | _ => .int
abbrev wsJ20 : List Cond := u_ws RJ2 TJ2 0
theorem nmJ2 : ∀ a, a < 0 → ∀ b, b < 0 → a ≠ b → (TJ2 a).2.1 ≠ (TJ2 b).2.1 := by decide +kernel
theorem tyJ2_ok : ∀ k, k < 0 → parseFieldDescriptor (TJ2 k).2.2.1 = some (tyJ2 k) := by decide +kernel
abbrev cJ2_getChar_3b067 : ByteArray := prog_29_method_5_code
def yJ2_getChar_3b067 : MethodName := ⟨RJ2, "getChar", "([BI)C"⟩
abbrev cJ2_length_9d52b : ByteArray := prog_29_method_6_code
def yJ2_length_9d52b : MethodName := ⟨RJ2, "length", "([B)I"⟩
abbrev cJ2_charAt_3b067 : ByteArray := prog_29_method_83_code
def yJ2_charAt_3b067 : MethodName := ⟨RJ2, "charAt", "([BI)C"⟩
abbrev cJ2_checkIndex_2214a : ByteArray := prog_29_method_91_code
def yJ2_checkIndex_2214a : MethodName := ⟨RJ2, "checkIndex", "(I[B)V"⟩
def RJ10 : String := "java/lang/System"
def TJ10 : u_T := fun k => match k with
  | _ => ("", "", "", false)
def tyJ10 : Nat → FieldType := fun k => match k with
  | _ => .int
abbrev wsJ100 : List Cond := u_ws RJ10 TJ10 0
theorem nmJ10 : ∀ a, a < 0 → ∀ b, b < 0 → a ≠ b → (TJ10 a).2.1 ≠ (TJ10 b).2.1 := by decide +kernel
theorem tyJ10_ok : ∀ k, k < 0 → parseFieldDescriptor (TJ10 k).2.2.1 = some (tyJ10 k) := by decide +kernel
def RJxfd54e : String := "java/lang/constant/Constable"
def TJxfd54e : u_T := fun k => match k with
  | _ => ("", "", "", false)
def tyJxfd54e : Nat → FieldType := fun k => match k with
  | _ => .int
abbrev wsJxfd54e0 : List Cond := u_ws RJxfd54e TJxfd54e 0
theorem nmJxfd54e : ∀ a, a < 0 → ∀ b, b < 0 → a ≠ b → (TJxfd54e a).2.1 ≠ (TJxfd54e b).2.1 := by decide +kernel
theorem tyJxfd54e_ok : ∀ k, k < 0 → parseFieldDescriptor (TJxfd54e k).2.2.1 = some (tyJxfd54e k) := by decide +kernel
def RJx3cf43 : String := "java/lang/constant/ConstantDesc"
def TJx3cf43 : u_T := fun k => match k with
  | _ => ("", "", "", false)
def tyJx3cf43 : Nat → FieldType := fun k => match k with
  | _ => .int
abbrev wsJx3cf430 : List Cond := u_ws RJx3cf43 TJx3cf43 0
theorem nmJx3cf43 : ∀ a, a < 0 → ∀ b, b < 0 → a ≠ b → (TJx3cf43 a).2.1 ≠ (TJx3cf43 b).2.1 := by decide +kernel
theorem tyJx3cf43_ok : ∀ k, k < 0 → parseFieldDescriptor (TJx3cf43 k).2.2.1 = some (tyJx3cf43 k) := by decide +kernel
def RJ3 : String := "jdk/internal/util/Preconditions"
def TJ3 : u_T := fun k => match k with
  | _ => ("", "", "", false)
def tyJ3 : Nat → FieldType := fun k => match k with
  | _ => .int
abbrev wsJ30 : List Cond := u_ws RJ3 TJ3 0
theorem nmJ3 : ∀ a, a < 0 → ∀ b, b < 0 → a ≠ b → (TJ3 a).2.1 ≠ (TJ3 b).2.1 := by decide +kernel
theorem tyJ3_ok : ∀ k, k < 0 → parseFieldDescriptor (TJ3 k).2.2.1 = some (tyJ3 k) := by decide +kernel
abbrev cJ3_checkIndex_8e157 : ByteArray := prog_36_method_11_code
def yJ3_checkIndex_8e157 : MethodName := ⟨RJ3, "checkIndex", "(IILjava/util/function/BiFunction;)I"⟩
def RL : String := "JarCanneryLaw"
abbrev cL_addRaw : ByteArray := method_3_code
def yL_addRaw : MethodName := ⟨RL, "addRaw", "(LJarCannery;[J)I"⟩
abbrev cL_mix : ByteArray := method_4_code
def yL_mix : MethodName := ⟨RL, "mix", "(LJarCannery;II[J)I"⟩
abbrev cL_isFaulty : ByteArray := method_5_code
def yL_isFaulty : MethodName := ⟨RL, "isFaulty", "(LJarCannery;I[J)I"⟩
abbrev cL_strengthOf : ByteArray := method_6_code
def yL_strengthOf : MethodName := ⟨RL, "strengthOf", "(LJarCannery;I[J)I"⟩
abbrev cL_batchContains : ByteArray := method_7_code
def yL_batchContains : MethodName := ⟨RL, "batchContains", "(LJarCannery;II[J)I"⟩
abbrev cL_addLabel : ByteArray := method_8_code
def yL_addLabel : MethodName := ⟨RL, "addLabel", "(LJarCannery;[J)I"⟩
abbrev cL_labelLength : ByteArray := method_9_code
def yL_labelLength : MethodName := ⟨RL, "labelLength", "(LJarCannery;I[J)I"⟩
abbrev cL_labelLetter : ByteArray := method_10_code
def yL_labelLetter : MethodName := ⟨RL, "labelLetter", "(LJarCannery;II[J)I"⟩
abbrev cL_scan : ByteArray := method_11_code
def yL_scan : MethodName := ⟨RL, "scan", "(LJarCannery;[J)I"⟩
abbrev cL_distanceTo : ByteArray := method_12_code
def yL_distanceTo : MethodName := ⟨RL, "distanceTo", "(LJarCannery;I[J)I"⟩
abbrev cL_distanceByLetters : ByteArray := method_13_code
def yL_distanceByLetters : MethodName := ⟨RL, "distanceByLetters", "(LJarCannery;I[J)I"⟩
abbrev cL_fill : ByteArray := method_14_code
def yL_fill : MethodName := ⟨RL, "fill", "(LJarCannery;IIII[J)I"⟩
abbrev cL_ship : ByteArray := method_15_code
def yL_ship : MethodName := ⟨RL, "ship", "(LJarCannery;I[J)I"⟩
abbrev cL_pass : ByteArray := method_16_code
def yL_pass : MethodName := ⟨RL, "pass", "(LJarCannery;I[J)I"⟩
abbrev cL_recall : ByteArray := method_17_code
def yL_recall : MethodName := ⟨RL, "recall", "(LJarCannery;I[J)I"⟩
abbrev cL_lotAt : ByteArray := method_18_code
def yL_lotAt : MethodName := ⟨RL, "lotAt", "(LJarCannery;I[J)I"⟩
abbrev cL_jarsOf : ByteArray := method_19_code
def yL_jarsOf : MethodName := ⟨RL, "jarsOf", "(LJarCannery;I[J)I"⟩
abbrev cL_labelOf : ByteArray := method_20_code
def yL_labelOf : MethodName := ⟨RL, "labelOf", "(LJarCannery;I[J)I"⟩
abbrev cL_strengthOfLot : ByteArray := method_21_code
def yL_strengthOfLot : MethodName := ⟨RL, "strengthOfLot", "(LJarCannery;I[J)I"⟩
abbrev cL_pressureOf : ByteArray := method_22_code
def yL_pressureOf : MethodName := ⟨RL, "pressureOf", "(LJarCannery;I[J)I"⟩
abbrev cL_lotContains : ByteArray := method_23_code
def yL_lotContains : MethodName := ⟨RL, "lotContains", "(LJarCannery;II[J)I"⟩
abbrev cL_daysUntilPop : ByteArray := method_24_code
def yL_daysUntilPop : MethodName := ⟨RL, "daysUntilPop", "(LJarCannery;I[J)I"⟩
abbrev cL_daysByDivision : ByteArray := method_25_code
def yL_daysByDivision : MethodName := ⟨RL, "daysByDivision", "(LJarCannery;I[J)I"⟩
abbrev cL_lotByPressure : ByteArray := method_26_code
def yL_lotByPressure : MethodName := ⟨RL, "lotByPressure", "(LJarCannery;I[J)I"⟩
abbrev cL_affectedLots : ByteArray := method_27_code
def yL_affectedLots : MethodName := ⟨RL, "affectedLots", "(LJarCannery;I[J)I"⟩
abbrev cL_affectedBySets : ByteArray := method_28_code
def yL_affectedBySets : MethodName := ⟨RL, "affectedBySets", "(LJarCannery;I[J)I"⟩
abbrev cL_leastCrates : ByteArray := method_29_code
def yL_leastCrates : MethodName := ⟨RL, "leastCrates", "(LJarCannery;I[J)I"⟩
abbrev cL_leastCratesByTrial : ByteArray := method_30_code
def yL_leastCratesByTrial : MethodName := ⟨RL, "leastCratesByTrial", "(LJarCannery;I[J)I"⟩
abbrev cL_isTested : ByteArray := method_31_code
def yL_isTested : MethodName := ⟨RL, "isTested", "(LJarCannery;I[J)I"⟩
abbrev cL_meanPressure : ByteArray := method_32_code
def yL_meanPressure : MethodName := ⟨RL, "meanPressure", "(LJarCannery;[D)I"⟩
abbrev cL_shippedShare : ByteArray := method_33_code
def yL_shippedShare : MethodName := ⟨RL, "shippedShare", "(LJarCannery;[D)I"⟩
abbrev cL_writeLot : ByteArray := method_34_code
def yL_writeLot : MethodName := ⟨RL, "writeLot", "(LJarCannery;I[J)I"⟩
abbrev cL_lineAt : ByteArray := method_35_code
def yL_lineAt : MethodName := ⟨RL, "lineAt", "(LJarCannery;I[J)I"⟩
abbrev cL_type : ByteArray := method_36_code
def yL_type : MethodName := ⟨RL, "type", "(LJarCannery;C[J)I"⟩
abbrev cL_execute : ByteArray := method_37_code
def yL_execute : MethodName := ⟨RL, "execute", "(LJarCannery;[J)I"⟩
abbrev cL_errorPosition : ByteArray := method_38_code
def yL_errorPosition : MethodName := ⟨RL, "errorPosition", "(LJarCannery;[J)I"⟩
abbrev cL_failedCommand : ByteArray := method_39_code
def yL_failedCommand : MethodName := ⟨RL, "failedCommand", "(LJarCannery;[J)I"⟩
abbrev cL_undo : ByteArray := method_40_code
def yL_undo : MethodName := ⟨RL, "undo", "(LJarCannery;[J)I"⟩
abbrev cL_restore : ByteArray := method_41_code
def yL_restore : MethodName := ⟨RL, "restore", "(LJarCannery;[J)I"⟩
abbrev cL_law : ByteArray := code
def yL_law : MethodName := ⟨RL, "law", "([I)Z"⟩
def wsJ0_checkIndex_df160 : List Cond := .code yJ0_checkIndex_df160 cJ0_checkIndex_df160 2 none :: ([.fieldLink RJ0 1053 "jdk/internal/util/Preconditions" "SIOOBE_FORMATTER" "Ljava/util/function/BiFunction;", .methodLink RJ0 1059 yJ3_checkIndex_8e157, .static yJ3_checkIndex_8e157, .initialized RJ3, .code yJ3_checkIndex_8e157 cJ3_checkIndex_8e157 3 (some .int)])
theorem dJx00060_init_a7421_0 : decode cJx00060_init_a7421 0 = .ok (.aload_n 0, 1) := by decide +kernel
theorem dJx00060_init_a7421_1 : decode cJx00060_init_a7421 1 = .ok (.aload_n 1, 1) := by decide +kernel
theorem dJx00060_init_a7421_2 : decode cJx00060_init_a7421 2 = .ok (.invokespecial 7, 3) := by decide +kernel
theorem dJx00060_init_a7421_5 : decode cJx00060_init_a7421 5 = .ok (.return_, 1) := by decide +kernel
theorem dJ6_bitCount_0f7a4_0 : decode cJ6_bitCount_0f7a4 0 = .ok (.iload_n 0, 1) := by decide +kernel
theorem dJ6_bitCount_0f7a4_1 : decode cJ6_bitCount_0f7a4 1 = .ok (.iload_n 0, 1) := by decide +kernel
theorem dJ6_bitCount_0f7a4_2 : decode cJ6_bitCount_0f7a4 2 = .ok (.iconst 1, 1) := by decide +kernel
theorem dJ6_bitCount_0f7a4_3 : decode cJ6_bitCount_0f7a4 3 = .ok (.iushr, 1) := by decide +kernel
theorem dJ6_bitCount_0f7a4_4 : decode cJ6_bitCount_0f7a4 4 = .ok (.ldc_w 265, 3) := by decide +kernel
theorem dJ6_bitCount_0f7a4_7 : decode cJ6_bitCount_0f7a4 7 = .ok (.iand, 1) := by decide +kernel
theorem dJ6_bitCount_0f7a4_8 : decode cJ6_bitCount_0f7a4 8 = .ok (.isub, 1) := by decide +kernel
theorem dJ6_bitCount_0f7a4_9 : decode cJ6_bitCount_0f7a4 9 = .ok (.istore_n 0, 1) := by decide +kernel
theorem dJ6_bitCount_0f7a4_10 : decode cJ6_bitCount_0f7a4 10 = .ok (.iload_n 0, 1) := by decide +kernel
theorem dJ6_bitCount_0f7a4_11 : decode cJ6_bitCount_0f7a4 11 = .ok (.ldc_w 266, 3) := by decide +kernel
theorem dJ6_bitCount_0f7a4_14 : decode cJ6_bitCount_0f7a4 14 = .ok (.iand, 1) := by decide +kernel
theorem dJ6_bitCount_0f7a4_15 : decode cJ6_bitCount_0f7a4 15 = .ok (.iload_n 0, 1) := by decide +kernel
theorem dJ6_bitCount_0f7a4_16 : decode cJ6_bitCount_0f7a4 16 = .ok (.iconst 2, 1) := by decide +kernel
theorem dJ6_bitCount_0f7a4_17 : decode cJ6_bitCount_0f7a4 17 = .ok (.iushr, 1) := by decide +kernel
theorem dJ6_bitCount_0f7a4_18 : decode cJ6_bitCount_0f7a4 18 = .ok (.ldc_w 266, 3) := by decide +kernel
theorem dJ6_bitCount_0f7a4_21 : decode cJ6_bitCount_0f7a4 21 = .ok (.iand, 1) := by decide +kernel
theorem dJ6_bitCount_0f7a4_22 : decode cJ6_bitCount_0f7a4 22 = .ok (.iadd, 1) := by decide +kernel
theorem dJ6_bitCount_0f7a4_23 : decode cJ6_bitCount_0f7a4 23 = .ok (.istore_n 0, 1) := by decide +kernel
theorem dJ6_bitCount_0f7a4_24 : decode cJ6_bitCount_0f7a4 24 = .ok (.iload_n 0, 1) := by decide +kernel
theorem dJ6_bitCount_0f7a4_25 : decode cJ6_bitCount_0f7a4 25 = .ok (.iload_n 0, 1) := by decide +kernel
theorem dJ6_bitCount_0f7a4_26 : decode cJ6_bitCount_0f7a4 26 = .ok (.iconst 4, 1) := by decide +kernel
theorem dJ6_bitCount_0f7a4_27 : decode cJ6_bitCount_0f7a4 27 = .ok (.iushr, 1) := by decide +kernel
theorem dJ6_bitCount_0f7a4_28 : decode cJ6_bitCount_0f7a4 28 = .ok (.iadd, 1) := by decide +kernel
theorem dJ6_bitCount_0f7a4_29 : decode cJ6_bitCount_0f7a4 29 = .ok (.ldc_w 267, 3) := by decide +kernel
theorem dJ6_bitCount_0f7a4_32 : decode cJ6_bitCount_0f7a4 32 = .ok (.iand, 1) := by decide +kernel
theorem dJ6_bitCount_0f7a4_33 : decode cJ6_bitCount_0f7a4 33 = .ok (.istore_n 0, 1) := by decide +kernel
theorem dJ6_bitCount_0f7a4_34 : decode cJ6_bitCount_0f7a4 34 = .ok (.iload_n 0, 1) := by decide +kernel
theorem dJ6_bitCount_0f7a4_35 : decode cJ6_bitCount_0f7a4 35 = .ok (.iload_n 0, 1) := by decide +kernel
theorem dJ6_bitCount_0f7a4_36 : decode cJ6_bitCount_0f7a4 36 = .ok (.bipush 8, 2) := by decide +kernel
theorem dJ6_bitCount_0f7a4_38 : decode cJ6_bitCount_0f7a4 38 = .ok (.iushr, 1) := by decide +kernel
theorem dJ6_bitCount_0f7a4_39 : decode cJ6_bitCount_0f7a4 39 = .ok (.iadd, 1) := by decide +kernel
theorem dJ6_bitCount_0f7a4_40 : decode cJ6_bitCount_0f7a4 40 = .ok (.istore_n 0, 1) := by decide +kernel
theorem dJ6_bitCount_0f7a4_41 : decode cJ6_bitCount_0f7a4 41 = .ok (.iload_n 0, 1) := by decide +kernel
theorem dJ6_bitCount_0f7a4_42 : decode cJ6_bitCount_0f7a4 42 = .ok (.iload_n 0, 1) := by decide +kernel
theorem dJ6_bitCount_0f7a4_43 : decode cJ6_bitCount_0f7a4 43 = .ok (.bipush 16, 2) := by decide +kernel
theorem dJ6_bitCount_0f7a4_45 : decode cJ6_bitCount_0f7a4 45 = .ok (.iushr, 1) := by decide +kernel
theorem dJ6_bitCount_0f7a4_46 : decode cJ6_bitCount_0f7a4 46 = .ok (.iadd, 1) := by decide +kernel
theorem dJ6_bitCount_0f7a4_47 : decode cJ6_bitCount_0f7a4 47 = .ok (.istore_n 0, 1) := by decide +kernel
theorem dJ6_bitCount_0f7a4_48 : decode cJ6_bitCount_0f7a4 48 = .ok (.iload_n 0, 1) := by decide +kernel
theorem dJ6_bitCount_0f7a4_49 : decode cJ6_bitCount_0f7a4 49 = .ok (.bipush 63, 2) := by decide +kernel
theorem dJ6_bitCount_0f7a4_51 : decode cJ6_bitCount_0f7a4 51 = .ok (.iand, 1) := by decide +kernel
theorem dJ6_bitCount_0f7a4_52 : decode cJ6_bitCount_0f7a4 52 = .ok (.ireturn, 1) := by decide +kernel
theorem dJ9_max_7cf53_0 : decode cJ9_max_7cf53 0 = .ok (.iload_n 0, 1) := by decide +kernel
theorem dJ9_max_7cf53_1 : decode cJ9_max_7cf53 1 = .ok (.iload_n 1, 1) := by decide +kernel
theorem dJ9_max_7cf53_2 : decode cJ9_max_7cf53 2 = .ok (.if_icmp .lt 7, 3) := by decide +kernel
theorem dJ9_max_7cf53_5 : decode cJ9_max_7cf53 5 = .ok (.iload_n 0, 1) := by decide +kernel
theorem dJ9_max_7cf53_6 : decode cJ9_max_7cf53 6 = .ok (.goto 4, 3) := by decide +kernel
theorem dJ9_max_7cf53_9 : decode cJ9_max_7cf53 9 = .ok (.iload_n 1, 1) := by decide +kernel
theorem dJ9_max_7cf53_10 : decode cJ9_max_7cf53 10 = .ok (.ireturn, 1) := by decide +kernel
theorem dJ9_min_7cf53_0 : decode cJ9_min_7cf53 0 = .ok (.iload_n 0, 1) := by decide +kernel
theorem dJ9_min_7cf53_1 : decode cJ9_min_7cf53 1 = .ok (.iload_n 1, 1) := by decide +kernel
theorem dJ9_min_7cf53_2 : decode cJ9_min_7cf53 2 = .ok (.if_icmp .gt 7, 3) := by decide +kernel
theorem dJ9_min_7cf53_5 : decode cJ9_min_7cf53 5 = .ok (.iload_n 0, 1) := by decide +kernel
theorem dJ9_min_7cf53_6 : decode cJ9_min_7cf53 6 = .ok (.goto 4, 3) := by decide +kernel
theorem dJ9_min_7cf53_9 : decode cJ9_min_7cf53 9 = .ok (.iload_n 1, 1) := by decide +kernel
theorem dJ9_min_7cf53_10 : decode cJ9_min_7cf53 10 = .ok (.ireturn, 1) := by decide +kernel
theorem dJ0_length_8abf5_0 : decode cJ0_length_8abf5 0 = .ok (.aload_n 0, 1) := by decide +kernel
theorem dJ0_length_8abf5_1 : decode cJ0_length_8abf5 1 = .ok (.getfield 9, 3) := by decide +kernel
theorem dJ0_length_8abf5_4 : decode cJ0_length_8abf5 4 = .ok (.arraylength, 1) := by decide +kernel
theorem dJ0_length_8abf5_5 : decode cJ0_length_8abf5 5 = .ok (.aload_n 0, 1) := by decide +kernel
theorem dJ0_length_8abf5_6 : decode cJ0_length_8abf5 6 = .ok (.invokevirtual 335, 3) := by decide +kernel
theorem dJ0_length_8abf5_9 : decode cJ0_length_8abf5 9 = .ok (.ishr, 1) := by decide +kernel
theorem dJ0_length_8abf5_10 : decode cJ0_length_8abf5 10 = .ok (.ireturn, 1) := by decide +kernel
theorem dJ0_charAt_5068e_0 : decode cJ0_charAt_5068e 0 = .ok (.aload_n 0, 1) := by decide +kernel
theorem dJ0_charAt_5068e_1 : decode cJ0_charAt_5068e 1 = .ok (.invokevirtual 492, 3) := by decide +kernel
theorem dJ0_charAt_5068e_4 : decode cJ0_charAt_5068e 4 = .ok (.ifCond .eq 12, 3) := by decide +kernel
theorem dJ0_charAt_5068e_7 : decode cJ0_charAt_5068e 7 = .ok (.aload_n 0, 1) := by decide +kernel
theorem dJ0_charAt_5068e_8 : decode cJ0_charAt_5068e 8 = .ok (.getfield 9, 3) := by decide +kernel
theorem dJ0_charAt_5068e_11 : decode cJ0_charAt_5068e 11 = .ok (.iload_n 1, 1) := by decide +kernel
theorem dJ0_charAt_5068e_12 : decode cJ0_charAt_5068e 12 = .ok (.invokestatic 495, 3) := by decide +kernel
theorem dJ0_charAt_5068e_15 : decode cJ0_charAt_5068e 15 = .ok (.ireturn, 1) := by decide +kernel
theorem dJ0_charAt_5068e_16 : decode cJ0_charAt_5068e 16 = .ok (.aload_n 0, 1) := by decide +kernel
theorem dJ0_charAt_5068e_17 : decode cJ0_charAt_5068e 17 = .ok (.getfield 9, 3) := by decide +kernel
theorem dJ0_charAt_5068e_20 : decode cJ0_charAt_5068e 20 = .ok (.iload_n 1, 1) := by decide +kernel
theorem dJ0_charAt_5068e_21 : decode cJ0_charAt_5068e 21 = .ok (.invokestatic 498, 3) := by decide +kernel
theorem dJ0_charAt_5068e_24 : decode cJ0_charAt_5068e 24 = .ok (.ireturn, 1) := by decide +kernel
theorem dJ0_coder_7d493_0 : decode cJ0_coder_7d493 0 = .ok (.getstatic 38, 3) := by decide +kernel
theorem dJ0_coder_7d493_3 : decode cJ0_coder_7d493 3 = .ok (.ifCond .eq 10, 3) := by decide +kernel
theorem dJ0_coder_7d493_6 : decode cJ0_coder_7d493 6 = .ok (.aload_n 0, 1) := by decide +kernel
theorem dJ0_coder_7d493_7 : decode cJ0_coder_7d493 7 = .ok (.getfield 15, 3) := by decide +kernel
theorem dJ0_coder_7d493_10 : decode cJ0_coder_7d493 10 = .ok (.goto 4, 3) := by decide +kernel
theorem dJ0_coder_7d493_13 : decode cJ0_coder_7d493 13 = .ok (.iconst 1, 1) := by decide +kernel
theorem dJ0_coder_7d493_14 : decode cJ0_coder_7d493 14 = .ok (.ireturn, 1) := by decide +kernel
theorem dJ0_isLatin1_aae02_0 : decode cJ0_isLatin1_aae02 0 = .ok (.getstatic 38, 3) := by decide +kernel
theorem dJ0_isLatin1_aae02_3 : decode cJ0_isLatin1_aae02 3 = .ok (.ifCond .eq 14, 3) := by decide +kernel
theorem dJ0_isLatin1_aae02_6 : decode cJ0_isLatin1_aae02 6 = .ok (.aload_n 0, 1) := by decide +kernel
theorem dJ0_isLatin1_aae02_7 : decode cJ0_isLatin1_aae02 7 = .ok (.getfield 15, 3) := by decide +kernel
theorem dJ0_isLatin1_aae02_10 : decode cJ0_isLatin1_aae02 10 = .ok (.ifCond .ne 7, 3) := by decide +kernel
theorem dJ0_isLatin1_aae02_13 : decode cJ0_isLatin1_aae02 13 = .ok (.iconst 1, 1) := by decide +kernel
theorem dJ0_isLatin1_aae02_14 : decode cJ0_isLatin1_aae02 14 = .ok (.goto 4, 3) := by decide +kernel
theorem dJ0_isLatin1_aae02_17 : decode cJ0_isLatin1_aae02 17 = .ok (.iconst 0, 1) := by decide +kernel
theorem dJ0_isLatin1_aae02_18 : decode cJ0_isLatin1_aae02 18 = .ok (.ireturn, 1) := by decide +kernel
theorem dJ0_checkIndex_df160_0 : decode cJ0_checkIndex_df160 0 = .ok (.iload_n 0, 1) := by decide +kernel
theorem dJ0_checkIndex_df160_1 : decode cJ0_checkIndex_df160 1 = .ok (.iload_n 1, 1) := by decide +kernel
theorem dJ0_checkIndex_df160_2 : decode cJ0_checkIndex_df160 2 = .ok (.getstatic 1053, 3) := by decide +kernel
theorem dJ0_checkIndex_df160_5 : decode cJ0_checkIndex_df160 5 = .ok (.invokestatic 1059, 3) := by decide +kernel
theorem dJ0_checkIndex_df160_8 : decode cJ0_checkIndex_df160 8 = .ok (.pop, 1) := by decide +kernel
theorem dJ0_checkIndex_df160_9 : decode cJ0_checkIndex_df160 9 = .ok (.return_, 1) := by decide +kernel
theorem dJ1_charAt_3b067_0 : decode cJ1_charAt_3b067 0 = .ok (.iload_n 1, 1) := by decide +kernel
theorem dJ1_charAt_3b067_1 : decode cJ1_charAt_3b067 1 = .ok (.aload_n 0, 1) := by decide +kernel
theorem dJ1_charAt_3b067_2 : decode cJ1_charAt_3b067 2 = .ok (.arraylength, 1) := by decide +kernel
theorem dJ1_charAt_3b067_3 : decode cJ1_charAt_3b067 3 = .ok (.invokestatic 9, 3) := by decide +kernel
theorem dJ1_charAt_3b067_6 : decode cJ1_charAt_3b067 6 = .ok (.aload_n 0, 1) := by decide +kernel
theorem dJ1_charAt_3b067_7 : decode cJ1_charAt_3b067 7 = .ok (.iload_n 1, 1) := by decide +kernel
theorem dJ1_charAt_3b067_8 : decode cJ1_charAt_3b067 8 = .ok (.baload, 1) := by decide +kernel
theorem dJ1_charAt_3b067_9 : decode cJ1_charAt_3b067 9 = .ok (.sipush 255, 3) := by decide +kernel
theorem dJ1_charAt_3b067_12 : decode cJ1_charAt_3b067 12 = .ok (.iand, 1) := by decide +kernel
theorem dJ1_charAt_3b067_13 : decode cJ1_charAt_3b067 13 = .ok (.i2c, 1) := by decide +kernel
theorem dJ1_charAt_3b067_14 : decode cJ1_charAt_3b067 14 = .ok (.ireturn, 1) := by decide +kernel
theorem dJ2_getChar_3b067_0 : decode cJ2_getChar_3b067 0 = .ok (.getstatic 44, 3) := by decide +kernel
theorem dJ2_getChar_3b067_3 : decode cJ2_getChar_3b067 3 = .ok (.ifCond .ne 25, 3) := by decide +kernel
theorem dJ2_getChar_3b067_6 : decode cJ2_getChar_3b067 6 = .ok (.iload_n 1, 1) := by decide +kernel
theorem dJ2_getChar_3b067_7 : decode cJ2_getChar_3b067 7 = .ok (.ifCond .lt 11, 3) := by decide +kernel
theorem dJ2_getChar_3b067_10 : decode cJ2_getChar_3b067 10 = .ok (.iload_n 1, 1) := by decide +kernel
theorem dJ2_getChar_3b067_11 : decode cJ2_getChar_3b067 11 = .ok (.aload_n 0, 1) := by decide +kernel
theorem dJ2_getChar_3b067_12 : decode cJ2_getChar_3b067 12 = .ok (.invokestatic 48, 3) := by decide +kernel
theorem dJ2_getChar_3b067_15 : decode cJ2_getChar_3b067 15 = .ok (.if_icmp .lt 13, 3) := by decide +kernel
theorem dJ2_getChar_3b067_18 : decode cJ2_getChar_3b067 18 = .ok (.new 52, 3) := by decide +kernel
theorem dJ2_getChar_3b067_21 : decode cJ2_getChar_3b067 21 = .ok (.dup, 1) := by decide +kernel
theorem dJ2_getChar_3b067_22 : decode cJ2_getChar_3b067 22 = .ok (.ldc 54, 2) := by decide +kernel
theorem dJ2_getChar_3b067_24 : decode cJ2_getChar_3b067 24 = .ok (.invokespecial 56, 3) := by decide +kernel
theorem dJ2_getChar_3b067_27 : decode cJ2_getChar_3b067 27 = .ok (.athrow, 1) := by decide +kernel
theorem dJ2_getChar_3b067_28 : decode cJ2_getChar_3b067 28 = .ok (.iload_n 1, 1) := by decide +kernel
theorem dJ2_getChar_3b067_29 : decode cJ2_getChar_3b067 29 = .ok (.iconst 1, 1) := by decide +kernel
theorem dJ2_getChar_3b067_30 : decode cJ2_getChar_3b067 30 = .ok (.ishl, 1) := by decide +kernel
theorem dJ2_getChar_3b067_31 : decode cJ2_getChar_3b067 31 = .ok (.istore_n 1, 1) := by decide +kernel
theorem dJ2_getChar_3b067_32 : decode cJ2_getChar_3b067 32 = .ok (.aload_n 0, 1) := by decide +kernel
theorem dJ2_getChar_3b067_33 : decode cJ2_getChar_3b067 33 = .ok (.iload_n 1, 1) := by decide +kernel
theorem dJ2_getChar_3b067_34 : decode cJ2_getChar_3b067 34 = .ok (.iinc 1 1, 3) := by decide +kernel
theorem dJ2_getChar_3b067_37 : decode cJ2_getChar_3b067 37 = .ok (.baload, 1) := by decide +kernel
theorem dJ2_getChar_3b067_38 : decode cJ2_getChar_3b067 38 = .ok (.sipush 255, 3) := by decide +kernel
theorem dJ2_getChar_3b067_41 : decode cJ2_getChar_3b067 41 = .ok (.iand, 1) := by decide +kernel
theorem dJ2_getChar_3b067_42 : decode cJ2_getChar_3b067 42 = .ok (.getstatic 59, 3) := by decide +kernel
theorem dJ2_getChar_3b067_45 : decode cJ2_getChar_3b067 45 = .ok (.ishl, 1) := by decide +kernel
theorem dJ2_getChar_3b067_46 : decode cJ2_getChar_3b067 46 = .ok (.aload_n 0, 1) := by decide +kernel
theorem dJ2_getChar_3b067_47 : decode cJ2_getChar_3b067 47 = .ok (.iload_n 1, 1) := by decide +kernel
theorem dJ2_getChar_3b067_48 : decode cJ2_getChar_3b067 48 = .ok (.baload, 1) := by decide +kernel
theorem dJ2_getChar_3b067_49 : decode cJ2_getChar_3b067 49 = .ok (.sipush 255, 3) := by decide +kernel
theorem dJ2_getChar_3b067_52 : decode cJ2_getChar_3b067 52 = .ok (.iand, 1) := by decide +kernel
theorem dJ2_getChar_3b067_53 : decode cJ2_getChar_3b067 53 = .ok (.getstatic 63, 3) := by decide +kernel
theorem dJ2_getChar_3b067_56 : decode cJ2_getChar_3b067 56 = .ok (.ishl, 1) := by decide +kernel
theorem dJ2_getChar_3b067_57 : decode cJ2_getChar_3b067 57 = .ok (.ior, 1) := by decide +kernel
theorem dJ2_getChar_3b067_58 : decode cJ2_getChar_3b067 58 = .ok (.i2c, 1) := by decide +kernel
theorem dJ2_getChar_3b067_59 : decode cJ2_getChar_3b067 59 = .ok (.ireturn, 1) := by decide +kernel
theorem dJ2_length_9d52b_0 : decode cJ2_length_9d52b 0 = .ok (.aload_n 0, 1) := by decide +kernel
theorem dJ2_length_9d52b_1 : decode cJ2_length_9d52b 1 = .ok (.arraylength, 1) := by decide +kernel
theorem dJ2_length_9d52b_2 : decode cJ2_length_9d52b 2 = .ok (.iconst 1, 1) := by decide +kernel
theorem dJ2_length_9d52b_3 : decode cJ2_length_9d52b 3 = .ok (.ishr, 1) := by decide +kernel
theorem dJ2_length_9d52b_4 : decode cJ2_length_9d52b 4 = .ok (.ireturn, 1) := by decide +kernel
theorem dJ2_charAt_3b067_0 : decode cJ2_charAt_3b067 0 = .ok (.iload_n 1, 1) := by decide +kernel
theorem dJ2_charAt_3b067_1 : decode cJ2_charAt_3b067 1 = .ok (.aload_n 0, 1) := by decide +kernel
theorem dJ2_charAt_3b067_2 : decode cJ2_charAt_3b067 2 = .ok (.invokestatic 67, 3) := by decide +kernel
theorem dJ2_charAt_3b067_5 : decode cJ2_charAt_3b067 5 = .ok (.aload_n 0, 1) := by decide +kernel
theorem dJ2_charAt_3b067_6 : decode cJ2_charAt_3b067 6 = .ok (.iload_n 1, 1) := by decide +kernel
theorem dJ2_charAt_3b067_7 : decode cJ2_charAt_3b067 7 = .ok (.invokestatic 71, 3) := by decide +kernel
theorem dJ2_charAt_3b067_10 : decode cJ2_charAt_3b067 10 = .ok (.ireturn, 1) := by decide +kernel
theorem dJ2_checkIndex_2214a_0 : decode cJ2_checkIndex_2214a 0 = .ok (.iload_n 0, 1) := by decide +kernel
theorem dJ2_checkIndex_2214a_1 : decode cJ2_checkIndex_2214a 1 = .ok (.aload_n 1, 1) := by decide +kernel
theorem dJ2_checkIndex_2214a_2 : decode cJ2_checkIndex_2214a 2 = .ok (.invokestatic 48, 3) := by decide +kernel
theorem dJ2_checkIndex_2214a_5 : decode cJ2_checkIndex_2214a 5 = .ok (.invokestatic 414, 3) := by decide +kernel
theorem dJ2_checkIndex_2214a_8 : decode cJ2_checkIndex_2214a 8 = .ok (.return_, 1) := by decide +kernel
theorem dJ3_checkIndex_8e157_0 : decode cJ3_checkIndex_8e157 0 = .ok (.iload_n 0, 1) := by decide +kernel
theorem dJ3_checkIndex_8e157_1 : decode cJ3_checkIndex_8e157 1 = .ok (.ifCond .lt 8, 3) := by decide +kernel
theorem dJ3_checkIndex_8e157_4 : decode cJ3_checkIndex_8e157 4 = .ok (.iload_n 0, 1) := by decide +kernel
theorem dJ3_checkIndex_8e157_5 : decode cJ3_checkIndex_8e157 5 = .ok (.iload_n 1, 1) := by decide +kernel
theorem dJ3_checkIndex_8e157_6 : decode cJ3_checkIndex_8e157 6 = .ok (.if_icmp .lt 10, 3) := by decide +kernel
theorem dJ3_checkIndex_8e157_9 : decode cJ3_checkIndex_8e157 9 = .ok (.aload_n 2, 1) := by decide +kernel
theorem dJ3_checkIndex_8e157_10 : decode cJ3_checkIndex_8e157 10 = .ok (.iload_n 0, 1) := by decide +kernel
theorem dJ3_checkIndex_8e157_11 : decode cJ3_checkIndex_8e157 11 = .ok (.iload_n 1, 1) := by decide +kernel
theorem dJ3_checkIndex_8e157_12 : decode cJ3_checkIndex_8e157 12 = .ok (.invokestatic 95, 3) := by decide +kernel
theorem dJ3_checkIndex_8e157_15 : decode cJ3_checkIndex_8e157 15 = .ok (.athrow, 1) := by decide +kernel
theorem dJ3_checkIndex_8e157_16 : decode cJ3_checkIndex_8e157 16 = .ok (.iload_n 0, 1) := by decide +kernel
theorem dJ3_checkIndex_8e157_17 : decode cJ3_checkIndex_8e157 17 = .ok (.ireturn, 1) := by decide +kernel
