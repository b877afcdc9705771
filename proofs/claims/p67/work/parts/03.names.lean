def RX0 : String := "RippleTank$History"
def TX0 : u_T := fun k => match k with
  | 0 => ("RippleTank$History", "kept", "[LRippleTank$State;", true)
  | 1 => ("RippleTank$History", "oldest", "I", false)
  | _ => ("RippleTank$History", "count", "I", false)
def tyX0 : Nat → FieldType := fun k => match k with
  | 0 => .array (.object "RippleTank$State")
  | 1 => .int
  | _ => .int
theorem nmX0 : ∀ a, a < 3 → ∀ b, b < 3 → a ≠ b → (TX0 a).2.1 ≠ (TX0 b).2.1 := by decide +kernel
theorem tyX0_ok : ∀ k, k < 3 → parseFieldDescriptor (TX0 k).2.2.1 = some (tyX0 k) := by decide +kernel
abbrev cX0_init : ByteArray := prog_2_method_1_code
def yX0_init : MethodName := ⟨RX0, "<init>", "()V"⟩
abbrev cX0_clear : ByteArray := prog_2_method_2_code
def yX0_clear : MethodName := ⟨RX0, "clear", "()V"⟩
abbrev cX0_keep : ByteArray := prog_2_method_3_code
def yX0_keep : MethodName := ⟨RX0, "keep", "(LRippleTank$State;)V"⟩
abbrev cX0_takeBack : ByteArray := prog_2_method_4_code
def yX0_takeBack : MethodName := ⟨RX0, "takeBack", "(LRippleTank$State;)V"⟩
def RX1 : String := "RippleTank$NodeMap"
def TX1 : u_T := fun k => match k with
  | 0 => ("RippleTank$NodeMap", "rowBits", "[I", true)
  | 1 => ("RippleTank$NodeMap", "gathered", "[I", true)
  | _ => ("RippleTank$NodeMap", "gatheredCount", "I", false)
def tyX1 : Nat → FieldType := fun k => match k with
  | 0 => .array .int
  | 1 => .array .int
  | _ => .int
theorem nmX1 : ∀ a, a < 3 → ∀ b, b < 3 → a ≠ b → (TX1 a).2.1 ≠ (TX1 b).2.1 := by decide +kernel
theorem tyX1_ok : ∀ k, k < 3 → parseFieldDescriptor (TX1 k).2.2.1 = some (tyX1 k) := by decide +kernel
abbrev cX1_init : ByteArray := prog_3_method_1_code
def yX1_init : MethodName := ⟨RX1, "<init>", "()V"⟩
abbrev cX1_countGroups : ByteArray := prog_3_method_2_code
def yX1_countGroups : MethodName := ⟨RX1, "countGroups", "(II)I"⟩
abbrev cX1_removeGroup : ByteArray := prog_3_method_3_code
def yX1_removeGroup : MethodName := ⟨RX1, "removeGroup", "(IIII)V"⟩
abbrev cX1_gather : ByteArray := prog_3_method_4_code
def yX1_gather : MethodName := ⟨RX1, "gather", "(IIII)V"⟩
def RX2 : String := "RippleTank$Page"
def TX2 : u_T := fun k => match k with
  | 0 => ("RippleTank$Page", "bytes", "[B", true)
  | _ => ("RippleTank$Page", "length", "I", false)
def tyX2 : Nat → FieldType := fun k => match k with
  | 0 => .array .byte
  | _ => .int
theorem nmX2 : ∀ a, a < 2 → ∀ b, b < 2 → a ≠ b → (TX2 a).2.1 ≠ (TX2 b).2.1 := by decide +kernel
theorem tyX2_ok : ∀ k, k < 2 → parseFieldDescriptor (TX2 k).2.2.1 = some (tyX2 k) := by decide +kernel
abbrev cX2_init : ByteArray := prog_4_method_1_code
def yX2_init : MethodName := ⟨RX2, "<init>", "()V"⟩
def RX3 : String := "RippleTank$Parser"
def TX3 : u_T := fun k => match k with
  | 0 => ("RippleTank$Parser", "errorCode", "I", false)
  | 1 => ("RippleTank$Parser", "errorPlace", "I", false)
  | 2 => ("RippleTank$Parser", "bytes", "[B", true)
  | 3 => ("RippleTank$Parser", "end", "I", true)
  | 4 => ("RippleTank$Parser", "tank", "LRippleTank$Tank;", true)
  | 5 => ("RippleTank$Parser", "state", "LRippleTank$State;", true)
  | 6 => ("RippleTank$Parser", "kind", "I", false)
  | 7 => ("RippleTank$Parser", "start", "I", false)
  | 8 => ("RippleTank$Parser", "stop", "I", false)
  | 9 => ("RippleTank$Parser", "value", "I", false)
  | 10 => ("RippleTank$Parser", "cutCount", "I", false)
  | 11 => ("RippleTank$Parser", "toldDrifts", "I", false)
  | 12 => ("RippleTank$Parser", "toldOffs", "I", false)
  | _ => ("RippleTank$Parser", "toldShapes", "I", false)
def tyX3 : Nat → FieldType := fun k => match k with
  | 0 => .int
  | 1 => .int
  | 2 => .array .byte
  | 3 => .int
  | 4 => .object "RippleTank$Tank"
  | 5 => .object "RippleTank$State"
  | 6 => .int
  | 7 => .int
  | 8 => .int
  | 9 => .int
  | 10 => .int
  | 11 => .int
  | 12 => .int
  | _ => .int
theorem nmX3 : ∀ a, a < 14 → ∀ b, b < 14 → a ≠ b → (TX3 a).2.1 ≠ (TX3 b).2.1 := by decide +kernel
theorem tyX3_ok : ∀ k, k < 14 → parseFieldDescriptor (TX3 k).2.2.1 = some (tyX3 k) := by decide +kernel
abbrev cX3_init : ByteArray := prog_5_method_1_code
def yX3_init : MethodName := ⟨RX3, "<init>", "([BILRippleTank$Tank;LRippleTank$State;)V"⟩
abbrev cX3_readText : ByteArray := prog_5_method_2_code
def yX3_readText : MethodName := ⟨RX3, "readText", "()V"⟩
abbrev cX3_readHead : ByteArray := prog_5_method_3_code
def yX3_readHead : MethodName := ⟨RX3, "readHead", "()V"⟩
abbrev cX3_readLine : ByteArray := prog_5_method_4_code
def yX3_readLine : MethodName := ⟨RX3, "readLine", "()V"⟩
abbrev cX3_readTrain : ByteArray := prog_5_method_5_code
def yX3_readTrain : MethodName := ⟨RX3, "readTrain", "()V"⟩
abbrev cX3_readDrift : ByteArray := prog_5_method_6_code
def yX3_readDrift : MethodName := ⟨RX3, "readDrift", "()V"⟩
abbrev cX3_readSlit : ByteArray := prog_5_method_7_code
def yX3_readSlit : MethodName := ⟨RX3, "readSlit", "()V"⟩
abbrev cX3_readOff : ByteArray := prog_5_method_8_code
def yX3_readOff : MethodName := ⟨RX3, "readOff", "()V"⟩
abbrev cX3_readMirror : ByteArray := prog_5_method_9_code
def yX3_readMirror : MethodName := ⟨RX3, "readMirror", "()V"⟩
abbrev cX3_readCut : ByteArray := prog_5_method_10_code
def yX3_readCut : MethodName := ⟨RX3, "readCut", "()V"⟩
abbrev cX3_readShape : ByteArray := prog_5_method_11_code
def yX3_readShape : MethodName := ⟨RX3, "readShape", "()V"⟩
abbrev cX3_readShoal : ByteArray := prog_5_method_12_code
def yX3_readShoal : MethodName := ⟨RX3, "readShoal", "()V"⟩
abbrev cX3_readGauge : ByteArray := prog_5_method_13_code
def yX3_readGauge : MethodName := ⟨RX3, "readGauge", "()V"⟩
abbrev cX3_startCounted : ByteArray := prog_5_method_14_code
def yX3_startCounted : MethodName := ⟨RX3, "startCounted", "(II)Z"⟩
abbrev cX3_readColumn : ByteArray := prog_5_method_15_code
def yX3_readColumn : MethodName := ⟨RX3, "readColumn", "(I)I"⟩
abbrev cX3_readRow : ByteArray := prog_5_method_16_code
def yX3_readRow : MethodName := ⟨RX3, "readRow", "(I)I"⟩
abbrev cX3_readSource : ByteArray := prog_5_method_17_code
def yX3_readSource : MethodName := ⟨RX3, "readSource", "(I)I"⟩
abbrev cX3_readSide : ByteArray := prog_5_method_18_code
def yX3_readSide : MethodName := ⟨RX3, "readSide", "()I"⟩
abbrev cX3_readSigned : ByteArray := prog_5_method_19_code
def yX3_readSigned : MethodName := ⟨RX3, "readSigned", "()I"⟩
abbrev cX3_readNumber : ByteArray := prog_5_method_20_code
def yX3_readNumber : MethodName := ⟨RX3, "readNumber", "(II)I"⟩
abbrev cX3_readWord : ByteArray := prog_5_method_21_code
def yX3_readWord : MethodName := ⟨RX3, "readWord", "(Ljava/lang/String;)V"⟩
abbrev cX3_takeWord : ByteArray := prog_5_method_22_code
def yX3_takeWord : MethodName := ⟨RX3, "takeWord", "(Ljava/lang/String;)Z"⟩
abbrev cX3_takeSemicolon : ByteArray := prog_5_method_23_code
def yX3_takeSemicolon : MethodName := ⟨RX3, "takeSemicolon", "()Z"⟩
abbrev cX3_isWord : ByteArray := prog_5_method_24_code
def yX3_isWord : MethodName := ⟨RX3, "isWord", "(Ljava/lang/String;)Z"⟩
abbrev cX3_fail : ByteArray := prog_5_method_25_code
def yX3_fail : MethodName := ⟨RX3, "fail", "(I)V"⟩
abbrev cX3_nextToken : ByteArray := prog_5_method_26_code
def yX3_nextToken : MethodName := ⟨RX3, "nextToken", "()V"⟩
abbrev cX3_countRun : ByteArray := prog_5_method_27_code
def yX3_countRun : MethodName := ⟨RX3, "countRun", "(CC)I"⟩
abbrev cX3_numberAtStart : ByteArray := prog_5_method_28_code
def yX3_numberAtStart : MethodName := ⟨RX3, "numberAtStart", "()I"⟩
abbrev cX3_kindOfSign : ByteArray := prog_5_method_29_code
def yX3_kindOfSign : MethodName := ⟨RX3, "kindOfSign", "(B)I"⟩
def RX4 : String := "RippleTank$Ruler"
def TX4 : u_T := fun k => match k with
  | _ => ("RippleTank$Ruler", "lengths", "[I", true)
def tyX4 : Nat → FieldType := fun k => match k with
  | _ => .array .int
theorem nmX4 : ∀ a, a < 1 → ∀ b, b < 1 → a ≠ b → (TX4 a).2.1 ≠ (TX4 b).2.1 := by decide +kernel
theorem tyX4_ok : ∀ k, k < 1 → parseFieldDescriptor (TX4 k).2.2.1 = some (tyX4 k) := by decide +kernel
abbrev cX4_init : ByteArray := prog_6_method_1_code
def yX4_init : MethodName := ⟨RX4, "<init>", "()V"⟩
abbrev cX4_between : ByteArray := prog_6_method_2_code
def yX4_between : MethodName := ⟨RX4, "between", "(II)I"⟩
abbrev cX4_root : ByteArray := prog_6_method_3_code
def yX4_root : MethodName := ⟨RX4, "root", "(I)I"⟩
def RX5 : String := "RippleTank$Shoal"
def TX5 : u_T := fun k => match k with
  | 0 => ("RippleTank$Shoal", "firstX", "I", false)
  | 1 => ("RippleTank$Shoal", "firstY", "I", false)
  | 2 => ("RippleTank$Shoal", "lastX", "I", false)
  | 3 => ("RippleTank$Shoal", "lastY", "I", false)
  | _ => ("RippleTank$Shoal", "percent", "I", false)
def tyX5 : Nat → FieldType := fun k => match k with
  | 0 => .int
  | 1 => .int
  | 2 => .int
  | 3 => .int
  | _ => .int
theorem nmX5 : ∀ a, a < 5 → ∀ b, b < 5 → a ≠ b → (TX5 a).2.1 ≠ (TX5 b).2.1 := by decide +kernel
theorem tyX5_ok : ∀ k, k < 5 → parseFieldDescriptor (TX5 k).2.2.1 = some (tyX5 k) := by decide +kernel
abbrev cX5_init : ByteArray := prog_7_method_1_code
def yX5_init : MethodName := ⟨RX5, "<init>", "()V"⟩
abbrev cX5_holds : ByteArray := prog_7_method_2_code
def yX5_holds : MethodName := ⟨RX5, "holds", "(II)Z"⟩
def RX6 : String := "RippleTank$State"
def TX6 : u_T := fun k => match k with
  | 0 => ("RippleTank$State", "now", "I", false)
  | 1 => ("RippleTank$State", "open", "I", false)
  | 2 => ("RippleTank$State", "on", "[Z", true)
  | 3 => ("RippleTank$State", "amps", "[I", true)
  | 4 => ("RippleTank$State", "phases", "[I", true)
  | 5 => ("RippleTank$State", "columns", "[I", true)
  | 6 => ("RippleTank$State", "rows", "[I", true)
  | 7 => ("RippleTank$State", "driftsX", "[I", true)
  | _ => ("RippleTank$State", "driftsY", "[I", true)
def tyX6 : Nat → FieldType := fun k => match k with
  | 0 => .int
  | 1 => .int
  | 2 => .array .boolean
  | 3 => .array .int
  | 4 => .array .int
  | 5 => .array .int
  | 6 => .array .int
  | 7 => .array .int
  | _ => .array .int
theorem nmX6 : ∀ a, a < 9 → ∀ b, b < 9 → a ≠ b → (TX6 a).2.1 ≠ (TX6 b).2.1 := by decide +kernel
theorem tyX6_ok : ∀ k, k < 9 → parseFieldDescriptor (TX6 k).2.2.1 = some (tyX6 k) := by decide +kernel
abbrev cX6_init : ByteArray := prog_8_method_1_code
def yX6_init : MethodName := ⟨RX6, "<init>", "()V"⟩
abbrev cX6_copyFrom : ByteArray := prog_8_method_2_code
def yX6_copyFrom : MethodName := ⟨RX6, "copyFrom", "(LRippleTank$State;)V"⟩
abbrev cX6_hasOpen : ByteArray := prog_8_method_3_code
def yX6_hasOpen : MethodName := ⟨RX6, "hasOpen", "(I)Z"⟩
abbrev cX6_turn : ByteArray := prog_8_method_4_code
def yX6_turn : MethodName := ⟨RX6, "turn", "(I)V"⟩
def RX7 : String := "RippleTank$Tank"
def TX7 : u_T := fun k => match k with
  | 0 => ("RippleTank$Tank", "ruler", "LRippleTank$Ruler;", true)
  | 1 => ("RippleTank$Tank", "columns", "I", false)
  | 2 => ("RippleTank$Tank", "rows", "I", false)
  | 3 => ("RippleTank$Tank", "fade", "I", false)
  | 4 => ("RippleTank$Tank", "wallColumn", "I", false)
  | 5 => ("RippleTank$Tank", "sourceCount", "I", false)
  | 6 => ("RippleTank$Tank", "trains", "[LRippleTank$Train;", true)
  | 7 => ("RippleTank$Tank", "shoalCount", "I", false)
  | 8 => ("RippleTank$Tank", "shoals", "[LRippleTank$Shoal;", true)
  | 9 => ("RippleTank$Tank", "gaugeCount", "I", false)
  | 10 => ("RippleTank$Tank", "gaugeColumns", "[I", true)
  | 11 => ("RippleTank$Tank", "gaugeRows", "[I", true)
  | _ => ("RippleTank$Tank", "mirrors", "[I", true)
def tyX7 : Nat → FieldType := fun k => match k with
  | 0 => .object "RippleTank$Ruler"
  | 1 => .int
  | 2 => .int
  | 3 => .int
  | 4 => .int
  | 5 => .int
  | 6 => .array (.object "RippleTank$Train")
  | 7 => .int
  | 8 => .array (.object "RippleTank$Shoal")
  | 9 => .int
  | 10 => .array .int
  | 11 => .array .int
  | _ => .array .int
theorem nmX7 : ∀ a, a < 13 → ∀ b, b < 13 → a ≠ b → (TX7 a).2.1 ≠ (TX7 b).2.1 := by decide +kernel
theorem tyX7_ok : ∀ k, k < 13 → parseFieldDescriptor (TX7 k).2.2.1 = some (tyX7 k) := by decide +kernel
abbrev cX7_init : ByteArray := prog_9_method_1_code
def yX7_init : MethodName := ⟨RX7, "<init>", "(LRippleTank$Ruler;)V"⟩
abbrev cX7_clear : ByteArray := prog_9_method_2_code
def yX7_clear : MethodName := ⟨RX7, "clear", "()V"⟩
abbrev cX7_cells : ByteArray := prog_9_method_3_code
def yX7_cells : MethodName := ⟨RX7, "cells", "()I"⟩
abbrev cX7_cellNumber : ByteArray := prog_9_method_4_code
def yX7_cellNumber : MethodName := ⟨RX7, "cellNumber", "(II)I"⟩
abbrev cX7_columnOf : ByteArray := prog_9_method_5_code
def yX7_columnOf : MethodName := ⟨RX7, "columnOf", "(LRippleTank$State;II)I"⟩
abbrev cX7_rowOf : ByteArray := prog_9_method_6_code
def yX7_rowOf : MethodName := ⟨RX7, "rowOf", "(LRippleTank$State;II)I"⟩
abbrev cX7_cellOf : ByteArray := prog_9_method_7_code
def yX7_cellOf : MethodName := ⟨RX7, "cellOf", "(LRippleTank$State;I)I"⟩
abbrev cX7_isShadowed : ByteArray := prog_9_method_8_code
def yX7_isShadowed : MethodName := ⟨RX7, "isShadowed", "(II)Z"⟩
abbrev cX7_isBlocked : ByteArray := prog_9_method_9_code
def yX7_isBlocked : MethodName := ⟨RX7, "isBlocked", "(LRippleTank$State;II)Z"⟩
abbrev cX7_lengthThrough : ByteArray := prog_9_method_10_code
def yX7_lengthThrough : MethodName := ⟨RX7, "lengthThrough", "(IIIII)I"⟩
abbrev cX7_shortestLength : ByteArray := prog_9_method_11_code
def yX7_shortestLength : MethodName := ⟨RX7, "shortestLength", "(LRippleTank$State;III)I"⟩
abbrev cX7_firstArrival : ByteArray := prog_9_method_12_code
def yX7_firstArrival : MethodName := ⟨RX7, "firstArrival", "(LRippleTank$State;III)I"⟩
abbrev cX7_imageColumn : ByteArray := prog_9_method_13_code
def yX7_imageColumn : MethodName := ⟨RX7, "imageColumn", "(II)I"⟩
abbrev cX7_imageRow : ByteArray := prog_9_method_14_code
def yX7_imageRow : MethodName := ⟨RX7, "imageRow", "(II)I"⟩
abbrev cX7_partOf : ByteArray := prog_9_method_15_code
def yX7_partOf : MethodName := ⟨RX7, "partOf", "(LRippleTank$State;IIII)I"⟩
abbrev cX7_waveOf : ByteArray := prog_9_method_16_code
def yX7_waveOf : MethodName := ⟨RX7, "waveOf", "(LRippleTank$State;III)I"⟩
abbrev cX7_staysCalm : ByteArray := prog_9_method_17_code
def yX7_staysCalm : MethodName := ⟨RX7, "staysCalm", "(LRippleTank$State;IIII)Z"⟩
abbrev cX7_energyOf : ByteArray := prog_9_method_18_code
def yX7_energyOf : MethodName := ⟨RX7, "energyOf", "(LRippleTank$State;III)J"⟩
def RX8 : String := "RippleTank$Train"
def TX8 : u_T := fun k => match k with
  | 0 => ("RippleTank$Train", "length", "I", false)
  | 1 => ("RippleTank$Train", "period", "I", false)
  | 2 => ("RippleTank$Train", "from", "I", false)
  | 3 => ("RippleTank$Train", "until", "I", false)
  | 4 => ("RippleTank$Train", "burstOn", "I", false)
  | 5 => ("RippleTank$Train", "burstOff", "I", false)
  | 6 => ("RippleTank$Train", "rise", "I", false)
  | 7 => ("RippleTank$Train", "shape", "I", false)
  | 8 => ("RippleTank$Train", "cutCount", "I", false)
  | 9 => ("RippleTank$Train", "cutFrom", "[I", true)
  | _ => ("RippleTank$Train", "cutUntil", "[I", true)
def tyX8 : Nat → FieldType := fun k => match k with
  | 0 => .int
  | 1 => .int
  | 2 => .int
  | 3 => .int
  | 4 => .int
  | 5 => .int
  | 6 => .int
  | 7 => .int
  | 8 => .int
  | 9 => .array .int
  | _ => .array .int
theorem nmX8 : ∀ a, a < 11 → ∀ b, b < 11 → a ≠ b → (TX8 a).2.1 ≠ (TX8 b).2.1 := by decide +kernel
theorem tyX8_ok : ∀ k, k < 11 → parseFieldDescriptor (TX8 k).2.2.1 = some (tyX8 k) := by decide +kernel
abbrev cX8_init : ByteArray := prog_10_method_1_code
def yX8_init : MethodName := ⟨RX8, "<init>", "()V"⟩
abbrev cX8_addCut : ByteArray := prog_10_method_2_code
def yX8_addCut : MethodName := ⟨RX8, "addCut", "(II)V"⟩
abbrev cX8_emitted : ByteArray := prog_10_method_3_code
def yX8_emitted : MethodName := ⟨RX8, "emitted", "(II)I"⟩
abbrev cX8_delayOf : ByteArray := prog_10_method_4_code
def yX8_delayOf : MethodName := ⟨RX8, "delayOf", "(I)I"⟩
abbrev cX8_angleOf : ByteArray := prog_10_method_5_code
def yX8_angleOf : MethodName := ⟨RX8, "angleOf", "(III)I"⟩
abbrev cX8_valueOf : ByteArray := prog_10_method_6_code
def yX8_valueOf : MethodName := ⟨RX8, "valueOf", "(I)I"⟩
abbrev cX8_brings : ByteArray := prog_10_method_7_code
def yX8_brings : MethodName := ⟨RX8, "brings", "(IIIII)I"⟩
abbrev cX8_sineOf : ByteArray := prog_10_method_8_code
def yX8_sineOf : MethodName := ⟨RX8, "sineOf", "(I)I"⟩
def RX9 : String := "RippleTank"
def TX9 : u_T := fun k => match k with
  | 0 => ("RippleTank", "input", "[B", true)
  | 1 => ("RippleTank", "inputLength", "I", false)
  | 2 => ("RippleTank", "errorCode", "I", false)
  | 3 => ("RippleTank", "errorPlace", "I", false)
  | 4 => ("RippleTank", "loaded", "Z", false)
  | 5 => ("RippleTank", "tank", "LRippleTank$Tank;", false)
  | 6 => ("RippleTank", "draft", "LRippleTank$Tank;", false)
  | 7 => ("RippleTank", "state", "LRippleTank$State;", true)
  | 8 => ("RippleTank", "trial", "LRippleTank$State;", true)
  | 9 => ("RippleTank", "history", "LRippleTank$History;", true)
  | 10 => ("RippleTank", "slots", "[LRippleTank$State;", true)
  | 11 => ("RippleTank", "filled", "[Z", true)
  | 12 => ("RippleTank", "page", "LRippleTank$Page;", true)
  | 13 => ("RippleTank", "nodeMap", "LRippleTank$NodeMap;", true)
  | 14 => ("RippleTank", "energies", "[J", true)
  | _ => ("RippleTank", "series", "[I", true)
def tyX9 : Nat → FieldType := fun k => match k with
  | 0 => .array .byte
  | 1 => .int
  | 2 => .int
  | 3 => .int
  | 4 => .boolean
  | 5 => .object "RippleTank$Tank"
  | 6 => .object "RippleTank$Tank"
  | 7 => .object "RippleTank$State"
  | 8 => .object "RippleTank$State"
  | 9 => .object "RippleTank$History"
  | 10 => .array (.object "RippleTank$State")
  | 11 => .array .boolean
  | 12 => .object "RippleTank$Page"
  | 13 => .object "RippleTank$NodeMap"
  | 14 => .array .long
  | _ => .array .int
theorem nmX9 : ∀ a, a < 16 → ∀ b, b < 16 → a ≠ b → (TX9 a).2.1 ≠ (TX9 b).2.1 := by decide +kernel
theorem tyX9_ok : ∀ k, k < 16 → parseFieldDescriptor (TX9 k).2.2.1 = some (tyX9 k) := by decide +kernel
abbrev cX9_init : ByteArray := prog_1_method_1_code
def yX9_init : MethodName := ⟨RX9, "<init>", "()V"⟩
abbrev cX9_append : ByteArray := prog_1_method_2_code
def yX9_append : MethodName := ⟨RX9, "append", "(IIIII)I"⟩
abbrev cX9_load : ByteArray := prog_1_method_3_code
def yX9_load : MethodName := ⟨RX9, "load", "(I)I"⟩
abbrev cX9_time : ByteArray := prog_1_method_7_code
def yX9_time : MethodName := ⟨RX9, "time", "()I"⟩
abbrev cX9_openRows : ByteArray := prog_1_method_11_code
def yX9_openRows : MethodName := ⟨RX9, "openRows", "()I"⟩
abbrev cX9_isOpen : ByteArray := prog_1_method_12_code
def yX9_isOpen : MethodName := ⟨RX9, "isOpen", "(I)Z"⟩
abbrev cX9_sourceAt : ByteArray := prog_1_method_14_code
def yX9_sourceAt : MethodName := ⟨RX9, "sourceAt", "(III)I"⟩
abbrev cX9_property : ByteArray := prog_1_method_15_code
def yX9_property : MethodName := ⟨RX9, "property", "(II)I"⟩
abbrev cX9_isOn : ByteArray := prog_1_method_16_code
def yX9_isOn : MethodName := ⟨RX9, "isOn", "(I)Z"⟩
abbrev cX9_distance : ByteArray := prog_1_method_19_code
def yX9_distance : MethodName := ⟨RX9, "distance", "(II)I"⟩
abbrev cX9_isBehind : ByteArray := prog_1_method_20_code
def yX9_isBehind : MethodName := ⟨RX9, "isBehind", "(III)Z"⟩
abbrev cX9_path : ByteArray := prog_1_method_21_code
def yX9_path : MethodName := ⟨RX9, "path", "(IIII)I"⟩
abbrev cX9_shortest : ByteArray := prog_1_method_22_code
def yX9_shortest : MethodName := ⟨RX9, "shortest", "(III)I"⟩
abbrev cX9_phase : ByteArray := prog_1_method_23_code
def yX9_phase : MethodName := ⟨RX9, "phase", "(III)I"⟩
abbrev cX9_arrival : ByteArray := prog_1_method_24_code
def yX9_arrival : MethodName := ⟨RX9, "arrival", "(III)I"⟩
abbrev cX9_part : ByteArray := prog_1_method_26_code
def yX9_part : MethodName := ⟨RX9, "part", "(III)I"⟩
abbrev cX9_wave : ByteArray := prog_1_method_27_code
def yX9_wave : MethodName := ⟨RX9, "wave", "(II)I"⟩
abbrev cX9_waveAt : ByteArray := prog_1_method_28_code
def yX9_waveAt : MethodName := ⟨RX9, "waveAt", "(III)I"⟩
abbrev cX9_gaugeAt : ByteArray := prog_1_method_31_code
def yX9_gaugeAt : MethodName := ⟨RX9, "gaugeAt", "(II)I"⟩
abbrev cX9_peak : ByteArray := prog_1_method_32_code
def yX9_peak : MethodName := ⟨RX9, "peak", "(II)I"⟩
abbrev cX9_crossings : ByteArray := prog_1_method_33_code
def yX9_crossings : MethodName := ⟨RX9, "crossings", "(II)I"⟩
abbrev cX9_rhythm : ByteArray := prog_1_method_34_code
def yX9_rhythm : MethodName := ⟨RX9, "rhythm", "(II)I"⟩
abbrev cX9_isNode : ByteArray := prog_1_method_35_code
def yX9_isNode : MethodName := ⟨RX9, "isNode", "(IIII)Z"⟩
abbrev cX9_nodes : ByteArray := prog_1_method_36_code
def yX9_nodes : MethodName := ⟨RX9, "nodes", "(II)I"⟩
abbrev cX9_nodeGroups : ByteArray := prog_1_method_38_code
def yX9_nodeGroups : MethodName := ⟨RX9, "nodeGroups", "(II)I"⟩
abbrev cX9_energy : ByteArray := prog_1_method_39_code
def yX9_energy : MethodName := ⟨RX9, "energy", "(III)J"⟩
abbrev cX9_rowEnergy : ByteArray := prog_1_method_40_code
def yX9_rowEnergy : MethodName := ⟨RX9, "rowEnergy", "(II)J"⟩
abbrev cX9_allEnergy : ByteArray := prog_1_method_41_code
def yX9_allEnergy : MethodName := ⟨RX9, "allEnergy", "(I)J"⟩
abbrev cX9_strongest : ByteArray := prog_1_method_42_code
def yX9_strongest : MethodName := ⟨RX9, "strongest", "(II)I"⟩
abbrev cX9_marks : ByteArray := prog_1_method_43_code
def yX9_marks : MethodName := ⟨RX9, "marks", "(II)I"⟩
abbrev cX9_isMark : ByteArray := prog_1_method_44_code
def yX9_isMark : MethodName := ⟨RX9, "isMark", "(IIII)Z"⟩
abbrev cX9_nodesIfOff : ByteArray := prog_1_method_50_code
def yX9_nodesIfOff : MethodName := ⟨RX9, "nodesIfOff", "(III)I"⟩
abbrev cX9_bestPhase : ByteArray := prog_1_method_51_code
def yX9_bestPhase : MethodName := ⟨RX9, "bestPhase", "(IIII)I"⟩
abbrev cX9_energyIfTurned : ByteArray := prog_1_method_53_code
def yX9_energyIfTurned : MethodName := ⟨RX9, "energyIfTurned", "(IIII)J"⟩
abbrev cX9_bestRow : ByteArray := prog_1_method_54_code
def yX9_bestRow : MethodName := ⟨RX9, "bestRow", "(III)I"⟩
abbrev cX9_advance : ByteArray := prog_1_method_55_code
def yX9_advance : MethodName := ⟨RX9, "advance", "(I)I"⟩
abbrev cX9_setOn : ByteArray := prog_1_method_56_code
def yX9_setOn : MethodName := ⟨RX9, "setOn", "(IZ)Z"⟩
abbrev cX9_setPhase : ByteArray := prog_1_method_57_code
def yX9_setPhase : MethodName := ⟨RX9, "setPhase", "(II)I"⟩
abbrev cX9_setAmp : ByteArray := prog_1_method_58_code
def yX9_setAmp : MethodName := ⟨RX9, "setAmp", "(II)I"⟩
abbrev cX9_moveSource : ByteArray := prog_1_method_59_code
def yX9_moveSource : MethodName := ⟨RX9, "moveSource", "(III)I"⟩
abbrev cX9_turnRow : ByteArray := prog_1_method_61_code
def yX9_turnRow : MethodName := ⟨RX9, "turnRow", "(I)Z"⟩
abbrev cX9_undo : ByteArray := prog_1_method_62_code
def yX9_undo : MethodName := ⟨RX9, "undo", "()I"⟩
abbrev cX9_undoable : ByteArray := prog_1_method_63_code
def yX9_undoable : MethodName := ⟨RX9, "undoable", "()I"⟩
abbrev cX9_save : ByteArray := prog_1_method_64_code
def yX9_save : MethodName := ⟨RX9, "save", "(I)I"⟩
abbrev cX9_restore : ByteArray := prog_1_method_65_code
def yX9_restore : MethodName := ⟨RX9, "restore", "(I)I"⟩
abbrev cX9_needTank : ByteArray := prog_1_method_66_code
def yX9_needTank : MethodName := ⟨RX9, "needTank", "()V"⟩
abbrev cX9_needSource : ByteArray := prog_1_method_67_code
def yX9_needSource : MethodName := ⟨RX9, "needSource", "(I)V"⟩
abbrev cX9_needGauge : ByteArray := prog_1_method_68_code
def yX9_needGauge : MethodName := ⟨RX9, "needGauge", "(I)V"⟩
abbrev cX9_needColumn : ByteArray := prog_1_method_69_code
def yX9_needColumn : MethodName := ⟨RX9, "needColumn", "(I)V"⟩
abbrev cX9_needRow : ByteArray := prog_1_method_70_code
def yX9_needRow : MethodName := ⟨RX9, "needRow", "(I)V"⟩
abbrev cX9_needCell : ByteArray := prog_1_method_71_code
def yX9_needCell : MethodName := ⟨RX9, "needCell", "(II)V"⟩
abbrev cX9_needSlot : ByteArray := prog_1_method_72_code
def yX9_needSlot : MethodName := ⟨RX9, "needSlot", "(I)V"⟩
abbrev cX9_needTimes : ByteArray := prog_1_method_73_code
def yX9_needTimes : MethodName := ⟨RX9, "needTimes", "(I)V"⟩
abbrev cX9_needTolerance : ByteArray := prog_1_method_74_code
def yX9_needTolerance : MethodName := ⟨RX9, "needTolerance", "(I)V"⟩
abbrev cX9_needRange : ByteArray := prog_1_method_75_code
def yX9_needRange : MethodName := ⟨RX9, "needRange", "(III)V"⟩
abbrev cX9_putBytes : ByteArray := prog_1_method_76_code
def yX9_putBytes : MethodName := ⟨RX9, "putBytes", "(I)V"⟩
abbrev cX9_fillSeries : ByteArray := prog_1_method_77_code
def yX9_fillSeries : MethodName := ⟨RX9, "fillSeries", "(II)V"⟩
abbrev cX9_laggedSum : ByteArray := prog_1_method_78_code
def yX9_laggedSum : MethodName := ⟨RX9, "laggedSum", "(II)J"⟩
abbrev cX9_calmColumns : ByteArray := prog_1_method_79_code
def yX9_calmColumns : MethodName := ⟨RX9, "calmColumns", "(LRippleTank$State;III)I"⟩
abbrev cX9_countCalm : ByteArray := prog_1_method_80_code
def yX9_countCalm : MethodName := ⟨RX9, "countCalm", "(LRippleTank$State;II)I"⟩
abbrev cX9_fillEnergies : ByteArray := prog_1_method_81_code
def yX9_fillEnergies : MethodName := ⟨RX9, "fillEnergies", "(I)V"⟩
abbrev cX9_greatestEnergy : ByteArray := prog_1_method_83_code
def yX9_greatestEnergy : MethodName := ⟨RX9, "greatestEnergy", "()J"⟩
abbrev cX9_countBefore : ByteArray := prog_1_method_84_code
def yX9_countBefore : MethodName := ⟨RX9, "countBefore", "(I)I"⟩
abbrev cX9_hasShare : ByteArray := prog_1_method_85_code
def yX9_hasShare : MethodName := ⟨RX9, "hasShare", "(JIJ)Z"⟩
abbrev cX9_turnedEnergy : ByteArray := prog_1_method_86_code
def yX9_turnedEnergy : MethodName := ⟨RX9, "turnedEnergy", "(IIII)J"⟩
def RX10 : String := "RippleTankModel"
def TX10 : u_T := fun k => match k with
  | _ => ("", "", "", false)
def tyX10 : Nat → FieldType := fun k => match k with
  | _ => .int
theorem nmX10 : ∀ a, a < 0 → ∀ b, b < 0 → a ≠ b → (TX10 a).2.1 ≠ (TX10 b).2.1 := by decide +kernel
theorem tyX10_ok : ∀ k, k < 0 → parseFieldDescriptor (TX10 k).2.2.1 = some (tyX10 k) := by decide +kernel
def RJx145de : String := "java/io/Serializable"
def TJx145de : u_T := fun k => match k with
  | _ => ("", "", "", false)
def tyJx145de : Nat → FieldType := fun k => match k with
  | _ => .int
theorem nmJx145de : ∀ a, a < 0 → ∀ b, b < 0 → a ≠ b → (TJx145de a).2.1 ≠ (TJx145de b).2.1 := by decide +kernel
theorem tyJx145de_ok : ∀ k, k < 0 → parseFieldDescriptor (TJx145de k).2.2.1 = some (tyJx145de k) := by decide +kernel
def RJx9f9b0 : String := "java/lang/CharSequence"
def TJx9f9b0 : u_T := fun k => match k with
  | _ => ("", "", "", false)
def tyJx9f9b0 : Nat → FieldType := fun k => match k with
  | _ => .int
theorem nmJx9f9b0 : ∀ a, a < 0 → ∀ b, b < 0 → a ≠ b → (TJx9f9b0 a).2.1 ≠ (TJx9f9b0 b).2.1 := by decide +kernel
theorem tyJx9f9b0_ok : ∀ k, k < 0 → parseFieldDescriptor (TJx9f9b0 k).2.2.1 = some (tyJx9f9b0 k) := by decide +kernel
def RJxb160c : String := "java/lang/Comparable"
def TJxb160c : u_T := fun k => match k with
  | _ => ("", "", "", false)
def tyJxb160c : Nat → FieldType := fun k => match k with
  | _ => .int
theorem nmJxb160c : ∀ a, a < 0 → ∀ b, b < 0 → a ≠ b → (TJxb160c a).2.1 ≠ (TJxb160c b).2.1 := by decide +kernel
theorem tyJxb160c_ok : ∀ k, k < 0 → parseFieldDescriptor (TJxb160c k).2.2.1 = some (tyJxb160c k) := by decide +kernel
def RJ6 : String := "java/lang/Integer"
def TJ6 : u_T := fun k => match k with
  | _ => ("", "", "", false)
def tyJ6 : Nat → FieldType := fun k => match k with
  | _ => .int
theorem nmJ6 : ∀ a, a < 0 → ∀ b, b < 0 → a ≠ b → (TJ6 a).2.1 ≠ (TJ6 b).2.1 := by decide +kernel
theorem tyJ6_ok : ∀ k, k < 0 → parseFieldDescriptor (TJ6 k).2.2.1 = some (tyJ6 k) := by decide +kernel
abbrev cJ6_numberOfLeadingZeros_0f7a4 : ByteArray := prog_17_method_47_code
def yJ6_numberOfLeadingZeros_0f7a4 : MethodName := ⟨RJ6, "numberOfLeadingZeros", "(I)I"⟩
abbrev cJ6_numberOfTrailingZeros_0f7a4 : ByteArray := prog_17_method_48_code
def yJ6_numberOfTrailingZeros_0f7a4 : MethodName := ⟨RJ6, "numberOfTrailingZeros", "(I)I"⟩
abbrev cJ6_bitCount_0f7a4 : ByteArray := prog_17_method_49_code
def yJ6_bitCount_0f7a4 : MethodName := ⟨RJ6, "bitCount", "(I)I"⟩
def RJ13 : String := "java/lang/Long"
def TJ13 : u_T := fun k => match k with
  | _ => ("", "", "", false)
def tyJ13 : Nat → FieldType := fun k => match k with
  | _ => .int
theorem nmJ13 : ∀ a, a < 0 → ∀ b, b < 0 → a ≠ b → (TJ13 a).2.1 ≠ (TJ13 b).2.1 := by decide +kernel
theorem tyJ13_ok : ∀ k, k < 0 → parseFieldDescriptor (TJ13 k).2.2.1 = some (tyJ13 k) := by decide +kernel
abbrev cJ13_numberOfLeadingZeros_95d88 : ByteArray := prog_18_method_48_code
def yJ13_numberOfLeadingZeros_95d88 : MethodName := ⟨RJ13, "numberOfLeadingZeros", "(J)I"⟩
abbrev cJ13_numberOfTrailingZeros_95d88 : ByteArray := prog_18_method_49_code
def yJ13_numberOfTrailingZeros_95d88 : MethodName := ⟨RJ13, "numberOfTrailingZeros", "(J)I"⟩
def RJ9 : String := "java/lang/Math"
def TJ9 : u_T := fun k => match k with
  | _ => ("", "", "", false)
def tyJ9 : Nat → FieldType := fun k => match k with
  | _ => .int
theorem nmJ9 : ∀ a, a < 0 → ∀ b, b < 0 → a ≠ b → (TJ9 a).2.1 ≠ (TJ9 b).2.1 := by decide +kernel
theorem tyJ9_ok : ∀ k, k < 0 → parseFieldDescriptor (TJ9 k).2.2.1 = some (tyJ9 k) := by decide +kernel
abbrev cJ9_floorMod_7cf53 : ByteArray := prog_19_method_50_code
def yJ9_floorMod_7cf53 : MethodName := ⟨RJ9, "floorMod", "(II)I"⟩
abbrev cJ9_abs_0f7a4 : ByteArray := prog_19_method_59_code
def yJ9_abs_0f7a4 : MethodName := ⟨RJ9, "abs", "(I)I"⟩
abbrev cJ9_max_7cf53 : ByteArray := prog_19_method_65_code
def yJ9_max_7cf53 : MethodName := ⟨RJ9, "max", "(II)I"⟩
abbrev cJ9_max_f86c9 : ByteArray := prog_19_method_66_code
def yJ9_max_f86c9 : MethodName := ⟨RJ9, "max", "(JJ)J"⟩
abbrev cJ9_min_7cf53 : ByteArray := prog_19_method_69_code
def yJ9_min_7cf53 : MethodName := ⟨RJ9, "min", "(II)I"⟩
def RJxd2413 : String := "java/lang/Number"
def TJxd2413 : u_T := fun k => match k with
  | _ => ("", "", "", false)
def tyJxd2413 : Nat → FieldType := fun k => match k with
  | _ => .int
theorem nmJxd2413 : ∀ a, a < 0 → ∀ b, b < 0 → a ≠ b → (TJxd2413 a).2.1 ≠ (TJxd2413 b).2.1 := by decide +kernel
theorem tyJxd2413_ok : ∀ k, k < 0 → parseFieldDescriptor (TJxd2413 k).2.2.1 = some (tyJxd2413 k) := by decide +kernel
def RJ0 : String := "java/lang/String"
def TJ0 : u_T := fun k => match k with
  | _ => ("", "", "", false)
def tyJ0 : Nat → FieldType := fun k => match k with
  | _ => .int
theorem nmJ0 : ∀ a, a < 0 → ∀ b, b < 0 → a ≠ b → (TJ0 a).2.1 ≠ (TJ0 b).2.1 := by decide +kernel
theorem tyJ0_ok : ∀ k, k < 0 → parseFieldDescriptor (TJ0 k).2.2.1 = some (tyJ0 k) := by decide +kernel
abbrev cJ0_length_8abf5 : ByteArray := prog_22_method_54_code
def yJ0_length_8abf5 : MethodName := ⟨RJ0, "length", "()I"⟩
abbrev cJ0_charAt_5068e : ByteArray := prog_22_method_56_code
def yJ0_charAt_5068e : MethodName := ⟨RJ0, "charAt", "(I)C"⟩
abbrev cJ0_coder_7d493 : ByteArray := prog_22_method_152_code
def yJ0_coder_7d493 : MethodName := ⟨RJ0, "coder", "()B"⟩
abbrev cJ0_isLatin1_aae02 : ByteArray := prog_22_method_154_code
def yJ0_isLatin1_aae02 : MethodName := ⟨RJ0, "isLatin1", "()Z"⟩
abbrev cJ0_checkIndex_df160 : ByteArray := prog_22_method_155_code
def yJ0_checkIndex_df160 : MethodName := ⟨RJ0, "checkIndex", "(II)V"⟩
def RJ1 : String := "java/lang/StringLatin1"
def TJ1 : u_T := fun k => match k with
  | _ => ("", "", "", false)
def tyJ1 : Nat → FieldType := fun k => match k with
  | _ => .int
theorem nmJ1 : ∀ a, a < 0 → ∀ b, b < 0 → a ≠ b → (TJ1 a).2.1 ≠ (TJ1 b).2.1 := by decide +kernel
theorem tyJ1_ok : ∀ k, k < 0 → parseFieldDescriptor (TJ1 k).2.2.1 = some (tyJ1 k) := by decide +kernel
abbrev cJ1_charAt_3b067 : ByteArray := prog_23_method_2_code
def yJ1_charAt_3b067 : MethodName := ⟨RJ1, "charAt", "([BI)C"⟩
def RJ2 : String := "java/lang/StringUTF16"
def TJ2 : u_T := fun k => match k with
  | _ => ("", "", "", false)
def tyJ2 : Nat → FieldType := fun k => match k with
  | _ => .int
theorem nmJ2 : ∀ a, a < 0 → ∀ b, b < 0 → a ≠ b → (TJ2 a).2.1 ≠ (TJ2 b).2.1 := by decide +kernel
theorem tyJ2_ok : ∀ k, k < 0 → parseFieldDescriptor (TJ2 k).2.2.1 = some (tyJ2 k) := by decide +kernel
abbrev cJ2_getChar_3b067 : ByteArray := prog_24_method_5_code
def yJ2_getChar_3b067 : MethodName := ⟨RJ2, "getChar", "([BI)C"⟩
abbrev cJ2_length_9d52b : ByteArray := prog_24_method_6_code
def yJ2_length_9d52b : MethodName := ⟨RJ2, "length", "([B)I"⟩
abbrev cJ2_charAt_3b067 : ByteArray := prog_24_method_83_code
def yJ2_charAt_3b067 : MethodName := ⟨RJ2, "charAt", "([BI)C"⟩
abbrev cJ2_checkIndex_2214a : ByteArray := prog_24_method_91_code
def yJ2_checkIndex_2214a : MethodName := ⟨RJ2, "checkIndex", "(I[B)V"⟩
def RJxfd54e : String := "java/lang/constant/Constable"
def TJxfd54e : u_T := fun k => match k with
  | _ => ("", "", "", false)
def tyJxfd54e : Nat → FieldType := fun k => match k with
  | _ => .int
theorem nmJxfd54e : ∀ a, a < 0 → ∀ b, b < 0 → a ≠ b → (TJxfd54e a).2.1 ≠ (TJxfd54e b).2.1 := by decide +kernel
theorem tyJxfd54e_ok : ∀ k, k < 0 → parseFieldDescriptor (TJxfd54e k).2.2.1 = some (tyJxfd54e k) := by decide +kernel
def RJx3cf43 : String := "java/lang/constant/ConstantDesc"
def TJx3cf43 : u_T := fun k => match k with
  | _ => ("", "", "", false)
def tyJx3cf43 : Nat → FieldType := fun k => match k with
  | _ => .int
theorem nmJx3cf43 : ∀ a, a < 0 → ∀ b, b < 0 → a ≠ b → (TJx3cf43 a).2.1 ≠ (TJx3cf43 b).2.1 := by decide +kernel
theorem tyJx3cf43_ok : ∀ k, k < 0 → parseFieldDescriptor (TJx3cf43 k).2.2.1 = some (tyJx3cf43 k) := by decide +kernel
def RJ7 : String := "java/util/Arrays"
def TJ7 : u_T := fun k => match k with
  | _ => ("", "", "", false)
def tyJ7 : Nat → FieldType := fun k => match k with
  | _ => .int
theorem nmJ7 : ∀ a, a < 0 → ∀ b, b < 0 → a ≠ b → (TJ7 a).2.1 ≠ (TJ7 b).2.1 := by decide +kernel
theorem tyJ7_ok : ∀ k, k < 0 → parseFieldDescriptor (TJ7 k).2.2.1 = some (tyJ7 k) := by decide +kernel
abbrev cJ7_equals_331f6 : ByteArray := prog_26_method_81_code
def yJ7_equals_331f6 : MethodName := ⟨RJ7, "equals", "([J[J)Z"⟩
def RJx9a822 : String := "jdk/internal/misc/Unsafe"
def TJx9a822 : u_T := fun k => match k with
  | _ => ("", "", "", false)
def tyJx9a822 : Nat → FieldType := fun k => match k with
  | _ => .int
theorem nmJx9a822 : ∀ a, a < 0 → ∀ b, b < 0 → a ≠ b → (TJx9a822 a).2.1 ≠ (TJx9a822 b).2.1 := by decide +kernel
theorem tyJx9a822_ok : ∀ k, k < 0 → parseFieldDescriptor (TJx9a822 k).2.2.1 = some (tyJx9a822 k) := by decide +kernel
abbrev cJx9a822_getLongUnaligned_f02c6 : ByteArray := prog_27_method_334_code
def yJx9a822_getLongUnaligned_f02c6 : MethodName := ⟨RJx9a822, "getLongUnaligned", "(Ljava/lang/Object;J)J"⟩
abbrev cJx9a822_getIntUnaligned_25a47 : ByteArray := prog_27_method_336_code
def yJx9a822_getIntUnaligned_25a47 : MethodName := ⟨RJx9a822, "getIntUnaligned", "(Ljava/lang/Object;J)I"⟩
abbrev cJx9a822_pickPos_7cf53 : ByteArray := prog_27_method_350_code
def yJx9a822_pickPos_7cf53 : MethodName := ⟨RJx9a822, "pickPos", "(II)I"⟩
abbrev cJx9a822_makeLong_0477f : ByteArray := prog_27_method_351_code
def yJx9a822_makeLong_0477f : MethodName := ⟨RJx9a822, "makeLong", "(BBBBBBBB)J"⟩
abbrev cJx9a822_makeLong_4b46d : ByteArray := prog_27_method_352_code
def yJx9a822_makeLong_4b46d : MethodName := ⟨RJx9a822, "makeLong", "(SSSS)J"⟩
abbrev cJx9a822_makeLong_a216e : ByteArray := prog_27_method_353_code
def yJx9a822_makeLong_a216e : MethodName := ⟨RJx9a822, "makeLong", "(II)J"⟩
abbrev cJx9a822_makeInt_4e28c : ByteArray := prog_27_method_354_code
def yJx9a822_makeInt_4e28c : MethodName := ⟨RJx9a822, "makeInt", "(SS)I"⟩
abbrev cJx9a822_makeInt_86272 : ByteArray := prog_27_method_355_code
def yJx9a822_makeInt_86272 : MethodName := ⟨RJx9a822, "makeInt", "(BBBB)I"⟩
abbrev cJx9a822_toUnsignedInt_4d018 : ByteArray := prog_27_method_366_code
def yJx9a822_toUnsignedInt_4d018 : MethodName := ⟨RJx9a822, "toUnsignedInt", "(B)I"⟩
abbrev cJx9a822_toUnsignedInt_f1ed4 : ByteArray := prog_27_method_367_code
def yJx9a822_toUnsignedInt_f1ed4 : MethodName := ⟨RJx9a822, "toUnsignedInt", "(S)I"⟩
abbrev cJx9a822_toUnsignedLong_c5be9 : ByteArray := prog_27_method_368_code
def yJx9a822_toUnsignedLong_c5be9 : MethodName := ⟨RJx9a822, "toUnsignedLong", "(B)J"⟩
abbrev cJx9a822_toUnsignedLong_51cfc : ByteArray := prog_27_method_369_code
def yJx9a822_toUnsignedLong_51cfc : MethodName := ⟨RJx9a822, "toUnsignedLong", "(S)J"⟩
abbrev cJx9a822_toUnsignedLong_3e8ac : ByteArray := prog_27_method_370_code
def yJx9a822_toUnsignedLong_3e8ac : MethodName := ⟨RJx9a822, "toUnsignedLong", "(I)J"⟩
def RJxf92f9 : String := "jdk/internal/misc/UnsafeConstants"
def TJxf92f9 : u_T := fun k => match k with
  | _ => ("", "", "", false)
def tyJxf92f9 : Nat → FieldType := fun k => match k with
  | _ => .int
theorem nmJxf92f9 : ∀ a, a < 0 → ∀ b, b < 0 → a ≠ b → (TJxf92f9 a).2.1 ≠ (TJxf92f9 b).2.1 := by decide +kernel
theorem tyJxf92f9_ok : ∀ k, k < 0 → parseFieldDescriptor (TJxf92f9 k).2.2.1 = some (tyJxf92f9 k) := by decide +kernel
def RJ8 : String := "jdk/internal/util/ArraysSupport"
def TJ8 : u_T := fun k => match k with
  | _ => ("", "", "", false)
def tyJ8 : Nat → FieldType := fun k => match k with
  | _ => .int
theorem nmJ8 : ∀ a, a < 0 → ∀ b, b < 0 → a ≠ b → (TJ8 a).2.1 ≠ (TJ8 b).2.1 := by decide +kernel
theorem tyJ8_ok : ∀ k, k < 0 → parseFieldDescriptor (TJ8 k).2.2.1 = some (tyJ8 k) := by decide +kernel
abbrev cJ8_vectorizedMismatch_456ae : ByteArray := prog_29_method_3_code
def yJ8_vectorizedMismatch_456ae : MethodName := ⟨RJ8, "vectorizedMismatch", "(Ljava/lang/Object;JLjava/lang/Object;JII)I"⟩
abbrev cJ8_mismatch_974f6 : ByteArray := prog_29_method_23_code
def yJ8_mismatch_974f6 : MethodName := ⟨RJ8, "mismatch", "([J[JI)I"⟩
def RJ3 : String := "jdk/internal/util/Preconditions"
def TJ3 : u_T := fun k => match k with
  | _ => ("", "", "", false)
def tyJ3 : Nat → FieldType := fun k => match k with
  | _ => .int
theorem nmJ3 : ∀ a, a < 0 → ∀ b, b < 0 → a ≠ b → (TJ3 a).2.1 ≠ (TJ3 b).2.1 := by decide +kernel
theorem tyJ3_ok : ∀ k, k < 0 → parseFieldDescriptor (TJ3 k).2.2.1 = some (tyJ3 k) := by decide +kernel
abbrev cJ3_checkIndex_8e157 : ByteArray := prog_30_method_11_code
def yJ3_checkIndex_8e157 : MethodName := ⟨RJ3, "checkIndex", "(IILjava/util/function/BiFunction;)I"⟩
def RL : String := "RippleTankLaw"
abbrev cL_put : ByteArray := method_2_code
def yL_put : MethodName := ⟨RL, "put", "(LRippleTank;[II)V"⟩
abbrev cL_flush : ByteArray := method_3_code
def yL_flush : MethodName := ⟨RL, "flush", "(LRippleTank;[I)V"⟩
abbrev cL_say : ByteArray := method_4_code
def yL_say : MethodName := ⟨RL, "say", "(LRippleTank;[IJ)V"⟩
abbrev cL_said : ByteArray := method_5_code
def yL_said : MethodName := ⟨RL, "said", "(LRippleTank;[I)I"⟩
abbrev cL_number : ByteArray := method_6_code
def yL_number : MethodName := ⟨RL, "number", "(LRippleTank;[II)V"⟩
abbrev cL_cell : ByteArray := method_7_code
def yL_cell : MethodName := ⟨RL, "cell", "([II)I"⟩
abbrev cL_drawn : ByteArray := method_8_code
def yL_drawn : MethodName := ⟨RL, "drawn", "([I)[I"⟩
abbrev cL_furnished : ByteArray := method_9_code
def yL_furnished : MethodName := ⟨RL, "furnished", "([I[I)[I"⟩
abbrev cL_part : ByteArray := method_10_code
def yL_part : MethodName := ⟨RL, "part", "(LRippleTank;[II)V"⟩
abbrev cL_says : ByteArray := method_11_code
def yL_says : MethodName := ⟨RL, "says", "(LRippleTank;[I[I)I"⟩
abbrev cL_furniture : ByteArray := method_12_code
def yL_furniture : MethodName := ⟨RL, "furniture", "(LRippleTank;[I[I)V"⟩
abbrev cL_train : ByteArray := method_13_code
def yL_train : MethodName := ⟨RL, "train", "(LRippleTank;[I[II)V"⟩
abbrev cL_shoaled : ByteArray := method_28_code
def yL_shoaled : MethodName := ⟨RL, "shoaled", "([IIII)I"⟩
abbrev cL_law : ByteArray := code
def yL_law : MethodName := ⟨RL, "law", "([I)Z"⟩
abbrev cL_isBest : ByteArray := method_33_code
def yL_isBest : MethodName := ⟨RL, "isBest", "(LRippleTank;IIIII)Z"⟩
abbrev cL_isRight : ByteArray := method_34_code
def yL_isRight : MethodName := ⟨RL, "isRight", "(LRippleTank;[II)Z"⟩
abbrev cL_seen : ByteArray := method_35_code
def yL_seen : MethodName := ⟨RL, "seen", "(LRippleTank;[I)[J"⟩
abbrev vwCl : List vw_C := [(RX0, TX0, 3), (RX1, TX1, 3), (RX2, TX2, 2), (RX3, TX3, 14), (RX4, TX4, 1), (RX5, TX5, 5), (RX6, TX6, 9), (RX7, TX7, 13), (RX8, TX8, 11), (RX9, TX9, 16)]
