/-! ===== BEGIN printed: names, fields, word lists, decode rows ===== -/
def RX0 : String := "CurveMeetings$Band"
def TX0 : u_T := fun k => match k with
  | 0 => ("CurveMeetings$Band", "x0", "I", false)
  | 1 => ("CurveMeetings$Band", "y0", "I", false)
  | 2 => ("CurveMeetings$Band", "width", "I", false)
  | 3 => ("CurveMeetings$Band", "height", "I", false)
  | 4 => ("CurveMeetings$Band", "low", "I", false)
  | _ => ("CurveMeetings$Band", "high", "I", false)
def tyX0 : Nat → FieldType := fun k => match k with
  | 0 => .int
  | 1 => .int
  | 2 => .int
  | 3 => .int
  | 4 => .int
  | _ => .int
abbrev wsX00 : List Cond := u_ws RX0 TX0 6
theorem nmX0 : ∀ a, a < 6 → ∀ b, b < 6 → a ≠ b → (TX0 a).2.1 ≠ (TX0 b).2.1 := by decide +kernel
theorem tyX0_ok : ∀ k, k < 6 → parseFieldDescriptor (TX0 k).2.2.1 = some (tyX0 k) := by decide +kernel
abbrev cX0_init : ByteArray := prog_2_method_1_code
def yX0_init : MethodName := ⟨RX0, "<init>", "()V"⟩
def RX1 : String := "CurveMeetings$Cells"
def TX1 : u_T := fun k => match k with
  | 0 => ("CurveMeetings$Cells", "numbers", "[J", true)
  | 1 => ("CurveMeetings$Cells", "extremes", "[I", true)
  | 2 => ("CurveMeetings$Cells", "degrees", "[I", true)
  | _ => ("CurveMeetings$Cells", "depths", "[I", true)
def tyX1 : Nat → FieldType := fun k => match k with
  | 0 => .array .long
  | 1 => .array .int
  | 2 => .array .int
  | _ => .array .int
abbrev wsX10 : List Cond := u_ws RX1 TX1 4
theorem nmX1 : ∀ a, a < 4 → ∀ b, b < 4 → a ≠ b → (TX1 a).2.1 ≠ (TX1 b).2.1 := by decide +kernel
theorem tyX1_ok : ∀ k, k < 4 → parseFieldDescriptor (TX1 k).2.2.1 = some (tyX1 k) := by decide +kernel
abbrev cX1_init : ByteArray := prog_3_method_1_code
def yX1_init : MethodName := ⟨RX1, "<init>", "()V"⟩
abbrev cX1_startOf : ByteArray := prog_3_method_2_code
def yX1_startOf : MethodName := ⟨RX1, "startOf", "(III)I"⟩
abbrev cX1_number : ByteArray := prog_3_method_3_code
def yX1_number : MethodName := ⟨RX1, "number", "(IIII)J"⟩
abbrev cX1_extreme : ByteArray := prog_3_method_4_code
def yX1_extreme : MethodName := ⟨RX1, "extreme", "(III)I"⟩
abbrev cX1_degreeOf : ByteArray := prog_3_method_5_code
def yX1_degreeOf : MethodName := ⟨RX1, "degreeOf", "(I)I"⟩
abbrev cX1_grow : ByteArray := prog_3_method_6_code
def yX1_grow : MethodName := ⟨RX1, "grow", "(LCurveMeetings$Figure;II)V"⟩
abbrev cX1_isPlanted : ByteArray := prog_3_method_7_code
def yX1_isPlanted : MethodName := ⟨RX1, "isPlanted", "(LCurveMeetings$Figure;I)Z"⟩
abbrev cX1_homogeneous : ByteArray := prog_3_method_8_code
def yX1_homogeneous : MethodName := ⟨RX1, "homogeneous", "(LCurveMeetings$Figure;III)J"⟩
abbrev cX1_plant : ByteArray := prog_3_method_9_code
def yX1_plant : MethodName := ⟨RX1, "plant", "(LCurveMeetings$Figure;I)V"⟩
abbrev cX1_growLevel : ByteArray := prog_3_method_10_code
def yX1_growLevel : MethodName := ⟨RX1, "growLevel", "(II)V"⟩
abbrev cX1_findExtremes : ByteArray := prog_3_method_11_code
def yX1_findExtremes : MethodName := ⟨RX1, "findExtremes", "(II)V"⟩
abbrev cX1_compare : ByteArray := prog_3_method_12_code
def yX1_compare : MethodName := ⟨RX1, "compare", "(IIIIIII)J"⟩
def RX2 : String := "CurveMeetings$Figure"
def TX2 : u_T := fun k => match k with
  | _ => ("CurveMeetings$Figure", "numbers", "[I", true)
def tyX2 : Nat → FieldType := fun k => match k with
  | _ => .array .int
abbrev wsX20 : List Cond := u_ws RX2 TX2 1
theorem nmX2 : ∀ a, a < 1 → ∀ b, b < 1 → a ≠ b → (TX2 a).2.1 ≠ (TX2 b).2.1 := by decide +kernel
theorem tyX2_ok : ∀ k, k < 1 → parseFieldDescriptor (TX2 k).2.2.1 = some (tyX2 k) := by decide +kernel
abbrev cX2_init : ByteArray := prog_4_method_1_code
def yX2_init : MethodName := ⟨RX2, "<init>", "()V"⟩
abbrev cX2_at : ByteArray := prog_4_method_2_code
def yX2_at : MethodName := ⟨RX2, "at", "(I)I"⟩
abbrev cX2_put : ByteArray := prog_4_method_3_code
def yX2_put : MethodName := ⟨RX2, "put", "(II)V"⟩
abbrev cX2_makeEmpty : ByteArray := prog_4_method_4_code
def yX2_makeEmpty : MethodName := ⟨RX2, "makeEmpty", "()V"⟩
abbrev cX2_copyFrom : ByteArray := prog_4_method_5_code
def yX2_copyFrom : MethodName := ⟨RX2, "copyFrom", "(LCurveMeetings$Figure;)V"⟩
abbrev cX2_saveTo : ByteArray := prog_4_method_6_code
def yX2_saveTo : MethodName := ⟨RX2, "saveTo", "([II)V"⟩
abbrev cX2_curves : ByteArray := prog_4_method_8_code
def yX2_curves : MethodName := ⟨RX2, "curves", "()I"⟩
abbrev cX2_lines : ByteArray := prog_4_method_9_code
def yX2_lines : MethodName := ⟨RX2, "lines", "()I"⟩
abbrev cX2_hasCurve : ByteArray := prog_4_method_10_code
def yX2_hasCurve : MethodName := ⟨RX2, "hasCurve", "(I)Z"⟩
abbrev cX2_hasLine : ByteArray := prog_4_method_11_code
def yX2_hasLine : MethodName := ⟨RX2, "hasLine", "(I)Z"⟩
abbrev cX2_hasPoint : ByteArray := prog_4_method_12_code
def yX2_hasPoint : MethodName := ⟨RX2, "hasPoint", "(II)Z"⟩
abbrev cX2_addCurve : ByteArray := prog_4_method_13_code
def yX2_addCurve : MethodName := ⟨RX2, "addCurve", "(I)I"⟩
abbrev cX2_addLine : ByteArray := prog_4_method_14_code
def yX2_addLine : MethodName := ⟨RX2, "addLine", "(I)I"⟩
abbrev cX2_findCurve : ByteArray := prog_4_method_15_code
def yX2_findCurve : MethodName := ⟨RX2, "findCurve", "(I)I"⟩
abbrev cX2_findLine : ByteArray := prog_4_method_16_code
def yX2_findLine : MethodName := ⟨RX2, "findLine", "(I)I"⟩
abbrev cX2_find : ByteArray := prog_4_method_17_code
def yX2_find : MethodName := ⟨RX2, "find", "(III)I"⟩
abbrev cX2_setting : ByteArray := prog_4_method_18_code
def yX2_setting : MethodName := ⟨RX2, "setting", "(I)I"⟩
abbrev cX2_putSetting : ByteArray := prog_4_method_19_code
def yX2_putSetting : MethodName := ⟨RX2, "putSetting", "(II)V"⟩
abbrev cX2_size : ByteArray := prog_4_method_20_code
def yX2_size : MethodName := ⟨RX2, "size", "(I)I"⟩
abbrev cX2_putSize : ByteArray := prog_4_method_21_code
def yX2_putSize : MethodName := ⟨RX2, "putSize", "(II)V"⟩
abbrev cX2_top : ByteArray := prog_4_method_22_code
def yX2_top : MethodName := ⟨RX2, "top", "(I)I"⟩
abbrev cX2_pointStart : ByteArray := prog_4_method_23_code
def yX2_pointStart : MethodName := ⟨RX2, "pointStart", "(II)I"⟩
abbrev cX2_point : ByteArray := prog_4_method_24_code
def yX2_point : MethodName := ⟨RX2, "point", "(III)I"⟩
abbrev cX2_putPoint : ByteArray := prog_4_method_25_code
def yX2_putPoint : MethodName := ⟨RX2, "putPoint", "(IIIII)V"⟩
abbrev cX2_putPointNumber : ByteArray := prog_4_method_26_code
def yX2_putPointNumber : MethodName := ⟨RX2, "putPointNumber", "(IIII)V"⟩
abbrev cX2_copyPoint : ByteArray := prog_4_method_27_code
def yX2_copyPoint : MethodName := ⟨RX2, "copyPoint", "(III)V"⟩
abbrev cX2_swapPoints : ByteArray := prog_4_method_28_code
def yX2_swapPoints : MethodName := ⟨RX2, "swapPoints", "(III)V"⟩
abbrev cX2_lineValue : ByteArray := prog_4_method_29_code
def yX2_lineValue : MethodName := ⟨RX2, "lineValue", "(II)I"⟩
abbrev cX2_putLineValue : ByteArray := prog_4_method_30_code
def yX2_putLineValue : MethodName := ⟨RX2, "putLineValue", "(III)V"⟩
abbrev cX2_lineAt : ByteArray := prog_4_method_31_code
def yX2_lineAt : MethodName := ⟨RX2, "lineAt", "(III)I"⟩
abbrev cX2_cutNumber : ByteArray := prog_4_method_32_code
def yX2_cutNumber : MethodName := ⟨RX2, "cutNumber", "(III)I"⟩
def RX3 : String := "CurveMeetings$History"
def TX3 : u_T := fun k => match k with
  | 0 => ("CurveMeetings$History", "kept", "[I", true)
  | 1 => ("CurveMeetings$History", "oldest", "I", false)
  | _ => ("CurveMeetings$History", "count", "I", false)
def tyX3 : Nat → FieldType := fun k => match k with
  | 0 => .array .int
  | 1 => .int
  | _ => .int
abbrev wsX30 : List Cond := u_ws RX3 TX3 3
theorem nmX3 : ∀ a, a < 3 → ∀ b, b < 3 → a ≠ b → (TX3 a).2.1 ≠ (TX3 b).2.1 := by decide +kernel
theorem tyX3_ok : ∀ k, k < 3 → parseFieldDescriptor (TX3 k).2.2.1 = some (tyX3 k) := by decide +kernel
abbrev cX3_init : ByteArray := prog_5_method_1_code
def yX3_init : MethodName := ⟨RX3, "<init>", "()V"⟩
abbrev cX3_forget : ByteArray := prog_5_method_3_code
def yX3_forget : MethodName := ⟨RX3, "forget", "()V"⟩
abbrev cX3_startOf : ByteArray := prog_5_method_4_code
def yX3_startOf : MethodName := ⟨RX3, "startOf", "(I)I"⟩
abbrev cX3_keep : ByteArray := prog_5_method_5_code
def yX3_keep : MethodName := ⟨RX3, "keep", "(LCurveMeetings$Figure;)V"⟩
def RX4 : String := "CurveMeetings$Hull"
def TX4 : u_T := fun k => match k with
  | 0 => ("CurveMeetings$Hull", "corners", "[I", true)
  | _ => ("CurveMeetings$Hull", "count", "I", false)
def tyX4 : Nat → FieldType := fun k => match k with
  | 0 => .array .int
  | _ => .int
abbrev wsX40 : List Cond := u_ws RX4 TX4 2
theorem nmX4 : ∀ a, a < 2 → ∀ b, b < 2 → a ≠ b → (TX4 a).2.1 ≠ (TX4 b).2.1 := by decide +kernel
theorem tyX4_ok : ∀ k, k < 2 → parseFieldDescriptor (TX4 k).2.2.1 = some (tyX4 k) := by decide +kernel
abbrev cX4_init : ByteArray := prog_6_method_1_code
def yX4_init : MethodName := ⟨RX4, "<init>", "()V"⟩
def RX5 : String := "CurveMeetings$LineCut"
def TX5 : u_T := fun k => match k with
  | 0 => ("CurveMeetings$LineCut", "rows", "[J", true)
  | 1 => ("CurveMeetings$LineCut", "kinds", "[I", true)
  | 2 => ("CurveMeetings$LineCut", "depths", "[I", true)
  | 3 => ("CurveMeetings$LineCut", "cells", "[I", true)
  | 4 => ("CurveMeetings$LineCut", "degree", "I", false)
  | _ => ("CurveMeetings$LineCut", "roots", "I", false)
def tyX5 : Nat → FieldType := fun k => match k with
  | 0 => .array .long
  | 1 => .array .int
  | 2 => .array .int
  | 3 => .array .int
  | 4 => .int
  | _ => .int
abbrev wsX50 : List Cond := u_ws RX5 TX5 6
theorem nmX5 : ∀ a, a < 6 → ∀ b, b < 6 → a ≠ b → (TX5 a).2.1 ≠ (TX5 b).2.1 := by decide +kernel
theorem tyX5_ok : ∀ k, k < 6 → parseFieldDescriptor (TX5 k).2.2.1 = some (tyX5 k) := by decide +kernel
abbrev cX5_init : ByteArray := prog_7_method_1_code
def yX5_init : MethodName := ⟨RX5, "<init>", "()V"⟩
abbrev cX5_begin : ByteArray := prog_7_method_2_code
def yX5_begin : MethodName := ⟨RX5, "begin", "(LCurveMeetings$Figure;II)V"⟩
abbrev cX5_replace : ByteArray := prog_7_method_3_code
def yX5_replace : MethodName := ⟨RX5, "replace", "(IJ)V"⟩
abbrev cX5_number : ByteArray := prog_7_method_4_code
def yX5_number : MethodName := ⟨RX5, "number", "(II)J"⟩
abbrev cX5_isAllZero : ByteArray := prog_7_method_5_code
def yX5_isAllZero : MethodName := ⟨RX5, "isAllZero", "()Z"⟩
abbrev cX5_goDown : ByteArray := prog_7_method_6_code
def yX5_goDown : MethodName := ⟨RX5, "goDown", "(IZ)V"⟩
abbrev cX5_goTo : ByteArray := prog_7_method_7_code
def yX5_goTo : MethodName := ⟨RX5, "goTo", "(II)V"⟩
abbrev cX5_changesOfCell : ByteArray := prog_7_method_8_code
def yX5_changesOfCell : MethodName := ⟨RX5, "changesOfCell", "(II)I"⟩
abbrev cX5_changesAt : ByteArray := prog_7_method_9_code
def yX5_changesAt : MethodName := ⟨RX5, "changesAt", "(I)I"⟩
abbrev cX5_findAll : ByteArray := prog_7_method_10_code
def yX5_findAll : MethodName := ⟨RX5, "findAll", "(I)V"⟩
abbrev cX5_search : ByteArray := prog_7_method_11_code
def yX5_search : MethodName := ⟨RX5, "search", "(LCurveMeetings$LineCut;III)V"⟩
abbrev cX5_add : ByteArray := prog_7_method_12_code
def yX5_add : MethodName := ⟨RX5, "add", "(III)V"⟩
abbrev cX5_size : ByteArray := prog_7_method_13_code
def yX5_size : MethodName := ⟨RX5, "size", "()I"⟩
abbrev cX5_sizeOfKind : ByteArray := prog_7_method_14_code
def yX5_sizeOfKind : MethodName := ⟨RX5, "sizeOfKind", "(I)I"⟩
abbrev cX5_hasRoot : ByteArray := prog_7_method_15_code
def yX5_hasRoot : MethodName := ⟨RX5, "hasRoot", "(I)Z"⟩
abbrev cX5_kindOf : ByteArray := prog_7_method_16_code
def yX5_kindOf : MethodName := ⟨RX5, "kindOf", "(I)I"⟩
abbrev cX5_depthOf : ByteArray := prog_7_method_17_code
def yX5_depthOf : MethodName := ⟨RX5, "depthOf", "(I)I"⟩
abbrev cX5_cellOf : ByteArray := prog_7_method_18_code
def yX5_cellOf : MethodName := ⟨RX5, "cellOf", "(I)I"⟩
abbrev cX5_hasDoubleRoot : ByteArray := prog_7_method_21_code
def yX5_hasDoubleRoot : MethodName := ⟨RX5, "hasDoubleRoot", "()Z"⟩
abbrev cX5_power : ByteArray := prog_7_method_22_code
def yX5_power : MethodName := ⟨RX5, "power", "(I)J"⟩
abbrev cX5_isQuadraticDouble : ByteArray := prog_7_method_23_code
def yX5_isQuadraticDouble : MethodName := ⟨RX5, "isQuadraticDouble", "(JJJ)Z"⟩
abbrev cX5_isCubicDouble : ByteArray := prog_7_method_24_code
def yX5_isCubicDouble : MethodName := ⟨RX5, "isCubicDouble", "(JJJJ)Z"⟩
abbrev cX5_isFraction : ByteArray := prog_7_method_25_code
def yX5_isFraction : MethodName := ⟨RX5, "isFraction", "(JJ)Z"⟩
def RX6 : String := "CurveMeetings$PairGrid"
def TX6 : u_T := fun k => match k with
  | 0 => ("CurveMeetings$PairGrid", "marks", "[I", true)
  | 1 => ("CurveMeetings$PairGrid", "waiting", "[I", true)
  | 2 => ("CurveMeetings$PairGrid", "waitingCount", "I", false)
  | 3 => ("CurveMeetings$PairGrid", "depth", "I", false)
  | 4 => ("CurveMeetings$PairGrid", "side", "I", false)
  | 5 => ("CurveMeetings$PairGrid", "curve", "I", false)
  | _ => ("CurveMeetings$PairGrid", "other", "I", false)
def tyX6 : Nat → FieldType := fun k => match k with
  | 0 => .array .int
  | 1 => .array .int
  | 2 => .int
  | 3 => .int
  | 4 => .int
  | 5 => .int
  | _ => .int
abbrev wsX60 : List Cond := u_ws RX6 TX6 7
theorem nmX6 : ∀ a, a < 7 → ∀ b, b < 7 → a ≠ b → (TX6 a).2.1 ≠ (TX6 b).2.1 := by decide +kernel
theorem tyX6_ok : ∀ k, k < 7 → parseFieldDescriptor (TX6 k).2.2.1 = some (tyX6 k) := by decide +kernel
abbrev cX6_init : ByteArray := prog_8_method_1_code
def yX6_init : MethodName := ⟨RX6, "<init>", "()V"⟩
def RX7 : String := "CurveMeetings$TextReader"
def TX7 : u_T := fun k => match k with
  | 0 => ("CurveMeetings$TextReader", "text", "[B", true)
  | 1 => ("CurveMeetings$TextReader", "filled", "I", false)
  | 2 => ("CurveMeetings$TextReader", "length", "I", false)
  | 3 => ("CurveMeetings$TextReader", "start", "I", false)
  | 4 => ("CurveMeetings$TextReader", "next", "I", false)
  | 5 => ("CurveMeetings$TextReader", "kind", "I", false)
  | 6 => ("CurveMeetings$TextReader", "value", "I", false)
  | _ => ("CurveMeetings$TextReader", "settingsGiven", "I", false)
def tyX7 : Nat → FieldType := fun k => match k with
  | 0 => .array .byte
  | 1 => .int
  | 2 => .int
  | 3 => .int
  | 4 => .int
  | 5 => .int
  | 6 => .int
  | _ => .int
abbrev wsX70 : List Cond := u_ws RX7 TX7 8
theorem nmX7 : ∀ a, a < 8 → ∀ b, b < 8 → a ≠ b → (TX7 a).2.1 ≠ (TX7 b).2.1 := by decide +kernel
theorem tyX7_ok : ∀ k, k < 8 → parseFieldDescriptor (TX7 k).2.2.1 = some (tyX7 k) := by decide +kernel
abbrev cX7_init : ByteArray := prog_9_method_1_code
def yX7_init : MethodName := ⟨RX7, "<init>", "()V"⟩
abbrev cX7_filled : ByteArray := prog_9_method_2_code
def yX7_filled : MethodName := ⟨RX7, "filled", "()I"⟩
abbrev cX7_empty : ByteArray := prog_9_method_3_code
def yX7_empty : MethodName := ⟨RX7, "empty", "()V"⟩
abbrev cX7_append : ByteArray := prog_9_method_4_code
def yX7_append : MethodName := ⟨RX7, "append", "(I)V"⟩
abbrev cX7_place : ByteArray := prog_9_method_5_code
def yX7_place : MethodName := ⟨RX7, "place", "()I"⟩
abbrev cX7_read : ByteArray := prog_9_method_6_code
def yX7_read : MethodName := ⟨RX7, "read", "(ILCurveMeetings$Figure;)I"⟩
abbrev cX7_readStatement : ByteArray := prog_9_method_7_code
def yX7_readStatement : MethodName := ⟨RX7, "readStatement", "(LCurveMeetings$Figure;)I"⟩
abbrev cX7_readCurve : ByteArray := prog_9_method_8_code
def yX7_readCurve : MethodName := ⟨RX7, "readCurve", "(LCurveMeetings$Figure;)I"⟩
abbrev cX7_checkPointNumber : ByteArray := prog_9_method_9_code
def yX7_checkPointNumber : MethodName := ⟨RX7, "checkPointNumber", "(II)I"⟩
abbrev cX7_readLine : ByteArray := prog_9_method_10_code
def yX7_readLine : MethodName := ⟨RX7, "readLine", "(LCurveMeetings$Figure;)I"⟩
abbrev cX7_readSetting : ByteArray := prog_9_method_11_code
def yX7_readSetting : MethodName := ⟨RX7, "readSetting", "(LCurveMeetings$Figure;)I"⟩
abbrev cX7_isWord : ByteArray := prog_9_method_12_code
def yX7_isWord : MethodName := ⟨RX7, "isWord", "(I)Z"⟩
abbrev cX7_checkName : ByteArray := prog_9_method_13_code
def yX7_checkName : MethodName := ⟨RX7, "checkName", "(LCurveMeetings$Figure;)I"⟩
abbrev cX7_isReserved : ByteArray := prog_9_method_14_code
def yX7_isReserved : MethodName := ⟨RX7, "isReserved", "(I)Z"⟩
abbrev cX7_checkInteger : ByteArray := prog_9_method_15_code
def yX7_checkInteger : MethodName := ⟨RX7, "checkInteger", "(II)I"⟩
abbrev cX7_signAt : ByteArray := prog_9_method_16_code
def yX7_signAt : MethodName := ⟨RX7, "signAt", "(I)I"⟩
abbrev cX7_isLetter : ByteArray := prog_9_method_17_code
def yX7_isLetter : MethodName := ⟨RX7, "isLetter", "(I)Z"⟩
abbrev cX7_isDigit : ByteArray := prog_9_method_18_code
def yX7_isDigit : MethodName := ⟨RX7, "isDigit", "(I)Z"⟩
abbrev cX7_isBlank : ByteArray := prog_9_method_19_code
def yX7_isBlank : MethodName := ⟨RX7, "isBlank", "(I)Z"⟩
abbrev cX7_advance : ByteArray := prog_9_method_20_code
def yX7_advance : MethodName := ⟨RX7, "advance", "()V"⟩
abbrev cX7_takeWord : ByteArray := prog_9_method_21_code
def yX7_takeWord : MethodName := ⟨RX7, "takeWord", "()V"⟩
abbrev cX7_takeInteger : ByteArray := prog_9_method_22_code
def yX7_takeInteger : MethodName := ⟨RX7, "takeInteger", "()V"⟩
def RX8 : String := "CurveMeetings"
def TX8 : u_T := fun k => match k with
  | 0 => ("CurveMeetings", "figure", "LCurveMeetings$Figure;", true)
  | 1 => ("CurveMeetings", "draft", "LCurveMeetings$Figure;", true)
  | 2 => ("CurveMeetings", "history", "LCurveMeetings$History;", true)
  | 3 => ("CurveMeetings", "reader", "LCurveMeetings$TextReader;", true)
  | 4 => ("CurveMeetings", "cells", "LCurveMeetings$Cells;", true)
  | 5 => ("CurveMeetings", "cut", "LCurveMeetings$LineCut;", true)
  | 6 => ("CurveMeetings", "grid", "LCurveMeetings$PairGrid;", true)
  | 7 => ("CurveMeetings", "hull", "LCurveMeetings$Hull;", true)
  | 8 => ("CurveMeetings", "band", "LCurveMeetings$Band;", true)
  | _ => ("CurveMeetings", "errorAt", "I", false)
def tyX8 : Nat → FieldType := fun k => match k with
  | 0 => .object "CurveMeetings$Figure"
  | 1 => .object "CurveMeetings$Figure"
  | 2 => .object "CurveMeetings$History"
  | 3 => .object "CurveMeetings$TextReader"
  | 4 => .object "CurveMeetings$Cells"
  | 5 => .object "CurveMeetings$LineCut"
  | 6 => .object "CurveMeetings$PairGrid"
  | 7 => .object "CurveMeetings$Hull"
  | 8 => .object "CurveMeetings$Band"
  | _ => .int
abbrev wsX80 : List Cond := u_ws RX8 TX8 10
theorem nmX8 : ∀ a, a < 10 → ∀ b, b < 10 → a ≠ b → (TX8 a).2.1 ≠ (TX8 b).2.1 := by decide +kernel
theorem tyX8_ok : ∀ k, k < 10 → parseFieldDescriptor (TX8 k).2.2.1 = some (tyX8 k) := by decide +kernel
abbrev cX8_init : ByteArray := prog_1_method_1_code
def yX8_init : MethodName := ⟨RX8, "<init>", "()V"⟩
abbrev cX8_feed : ByteArray := prog_1_method_2_code
def yX8_feed : MethodName := ⟨RX8, "feed", "(IIIII)I"⟩
abbrev cX8_load : ByteArray := prog_1_method_3_code
def yX8_load : MethodName := ⟨RX8, "load", "(I)I"⟩
abbrev cX8_curveCount : ByteArray := prog_1_method_5_code
def yX8_curveCount : MethodName := ⟨RX8, "curveCount", "()I"⟩
abbrev cX8_lineCount : ByteArray := prog_1_method_6_code
def yX8_lineCount : MethodName := ⟨RX8, "lineCount", "()I"⟩
abbrev cX8_getSetting : ByteArray := prog_1_method_10_code
def yX8_getSetting : MethodName := ⟨RX8, "getSetting", "(I)I"⟩
abbrev cX8_degree : ByteArray := prog_1_method_11_code
def yX8_degree : MethodName := ⟨RX8, "degree", "(I)I"⟩
abbrev cX8_control : ByteArray := prog_1_method_12_code
def yX8_control : MethodName := ⟨RX8, "control", "(III)I"⟩
abbrev cX8_lineNumber : ByteArray := prog_1_method_13_code
def yX8_lineNumber : MethodName := ⟨RX8, "lineNumber", "(II)I"⟩
abbrev cX8_cellControl : ByteArray := prog_1_method_14_code
def yX8_cellControl : MethodName := ⟨RX8, "cellControl", "(IIIII)J"⟩
abbrev cX8_placeNumerator : ByteArray := prog_1_method_15_code
def yX8_placeNumerator : MethodName := ⟨RX8, "placeNumerator", "(IIII)J"⟩
abbrev cX8_placeDenominator : ByteArray := prog_1_method_16_code
def yX8_placeDenominator : MethodName := ⟨RX8, "placeDenominator", "(IIII)J"⟩
abbrev cX8_placePart : ByteArray := prog_1_method_17_code
def yX8_placePart : MethodName := ⟨RX8, "placePart", "(IIIIZ)J"⟩
abbrev cX8_commonDivisor : ByteArray := prog_1_method_18_code
def yX8_commonDivisor : MethodName := ⟨RX8, "commonDivisor", "(JJ)J"⟩
abbrev cX8_boxSide : ByteArray := prog_1_method_19_code
def yX8_boxSide : MethodName := ⟨RX8, "boxSide", "(IIII)I"⟩
abbrev cX8_coefficient : ByteArray := prog_1_method_23_code
def yX8_coefficient : MethodName := ⟨RX8, "coefficient", "(III)I"⟩
abbrev cX8_signChanges : ByteArray := prog_1_method_24_code
def yX8_signChanges : MethodName := ⟨RX8, "signChanges", "(IIII)I"⟩
abbrev cX8_isOn : ByteArray := prog_1_method_25_code
def yX8_isOn : MethodName := ⟨RX8, "isOn", "(II)Z"⟩
abbrev cX8_liesOn : ByteArray := prog_1_method_26_code
def yX8_liesOn : MethodName := ⟨RX8, "liesOn", "(II)Z"⟩
abbrev cX8_sideOf : ByteArray := prog_1_method_27_code
def yX8_sideOf : MethodName := ⟨RX8, "sideOf", "(III)I"⟩
abbrev cX8_rootCount : ByteArray := prog_1_method_28_code
def yX8_rootCount : MethodName := ⟨RX8, "rootCount", "(II)I"⟩
abbrev cX8_findRoots : ByteArray := prog_1_method_29_code
def yX8_findRoots : MethodName := ⟨RX8, "findRoots", "(II)V"⟩
abbrev cX8_rootsOf : ByteArray := prog_1_method_30_code
def yX8_rootsOf : MethodName := ⟨RX8, "rootsOf", "(III)I"⟩
abbrev cX8_rootKind : ByteArray := prog_1_method_31_code
def yX8_rootKind : MethodName := ⟨RX8, "rootKind", "(III)I"⟩
abbrev cX8_rootDepth : ByteArray := prog_1_method_32_code
def yX8_rootDepth : MethodName := ⟨RX8, "rootDepth", "(III)I"⟩
abbrev cX8_rootCell : ByteArray := prog_1_method_33_code
def yX8_rootCell : MethodName := ⟨RX8, "rootCell", "(III)I"⟩
abbrev cX8_isTangent : ByteArray := prog_1_method_35_code
def yX8_isTangent : MethodName := ⟨RX8, "isTangent", "(II)Z"⟩
abbrev cX8_movePoint : ByteArray := prog_1_method_59_code
def yX8_movePoint : MethodName := ⟨RX8, "movePoint", "(IIII)I"⟩
abbrev cX8_setWeight : ByteArray := prog_1_method_60_code
def yX8_setWeight : MethodName := ⟨RX8, "setWeight", "(III)I"⟩
abbrev cX8_insertPoint : ByteArray := prog_1_method_61_code
def yX8_insertPoint : MethodName := ⟨RX8, "insertPoint", "(IIIII)I"⟩
abbrev cX8_dropPoint : ByteArray := prog_1_method_62_code
def yX8_dropPoint : MethodName := ⟨RX8, "dropPoint", "(II)I"⟩
abbrev cX8_reverse : ByteArray := prog_1_method_63_code
def yX8_reverse : MethodName := ⟨RX8, "reverse", "(I)I"⟩
abbrev cX8_setLine : ByteArray := prog_1_method_64_code
def yX8_setLine : MethodName := ⟨RX8, "setLine", "(IIII)I"⟩
abbrev cX8_setSetting : ByteArray := prog_1_method_65_code
def yX8_setSetting : MethodName := ⟨RX8, "setSetting", "(II)I"⟩
abbrev cX8_requireCurve : ByteArray := prog_1_method_67_code
def yX8_requireCurve : MethodName := ⟨RX8, "requireCurve", "(I)V"⟩
abbrev cX8_requireLine : ByteArray := prog_1_method_69_code
def yX8_requireLine : MethodName := ⟨RX8, "requireLine", "(I)V"⟩
abbrev cX8_requireCurveAndLine : ByteArray := prog_1_method_70_code
def yX8_requireCurveAndLine : MethodName := ⟨RX8, "requireCurveAndLine", "(II)V"⟩
abbrev cX8_isWithin : ByteArray := prog_1_method_71_code
def yX8_isWithin : MethodName := ⟨RX8, "isWithin", "(III)Z"⟩
abbrev cX8_isPlace : ByteArray := prog_1_method_72_code
def yX8_isPlace : MethodName := ⟨RX8, "isPlace", "(II)Z"⟩
abbrev cX8_isLine : ByteArray := prog_1_method_73_code
def yX8_isLine : MethodName := ⟨RX8, "isLine", "(III)Z"⟩
abbrev cX8_isSetting : ByteArray := prog_1_method_74_code
def yX8_isSetting : MethodName := ⟨RX8, "isSetting", "(I)Z"⟩
abbrev cX8_greatestOf : ByteArray := prog_1_method_75_code
def yX8_greatestOf : MethodName := ⟨RX8, "greatestOf", "(I)I"⟩
abbrev cX8_isCell : ByteArray := prog_1_method_76_code
def yX8_isCell : MethodName := ⟨RX8, "isCell", "(III)Z"⟩
abbrev cX8_signOf : ByteArray := prog_1_method_77_code
def yX8_signOf : MethodName := ⟨RX8, "signOf", "(J)I"⟩
abbrev cX8_nodeOf : ByteArray := prog_1_method_78_code
def yX8_nodeOf : MethodName := ⟨RX8, "nodeOf", "(II)I"⟩
abbrev cX8_halve : ByteArray := prog_1_method_79_code
def yX8_halve : MethodName := ⟨RX8, "halve", "([JIIIZ)V"⟩
def RX9 : String := "CurveMeetingsModel"
def TX9 : u_T := fun k => match k with
  | _ => ("", "", "", false)
def tyX9 : Nat → FieldType := fun k => match k with
  | _ => .int
abbrev wsX90 : List Cond := u_ws RX9 TX9 0
theorem nmX9 : ∀ a, a < 0 → ∀ b, b < 0 → a ≠ b → (TX9 a).2.1 ≠ (TX9 b).2.1 := by decide +kernel
theorem tyX9_ok : ∀ k, k < 0 → parseFieldDescriptor (TX9 k).2.2.1 = some (tyX9 k) := by decide +kernel
def RJx145de : String := "java/io/Serializable"
def TJx145de : u_T := fun k => match k with
  | _ => ("", "", "", false)
def tyJx145de : Nat → FieldType := fun k => match k with
  | _ => .int
abbrev wsJx145de0 : List Cond := u_ws RJx145de TJx145de 0
theorem nmJx145de : ∀ a, a < 0 → ∀ b, b < 0 → a ≠ b → (TJx145de a).2.1 ≠ (TJx145de b).2.1 := by decide +kernel
theorem tyJx145de_ok : ∀ k, k < 0 → parseFieldDescriptor (TJx145de k).2.2.1 = some (tyJx145de k) := by decide +kernel
def RJ5 : String := "java/lang/AbstractStringBuilder"
def TJ5 : u_T := fun k => match k with
  | _ => ("", "", "", false)
def tyJ5 : Nat → FieldType := fun k => match k with
  | _ => .int
abbrev wsJ50 : List Cond := u_ws RJ5 TJ5 0
theorem nmJ5 : ∀ a, a < 0 → ∀ b, b < 0 → a ≠ b → (TJ5 a).2.1 ≠ (TJ5 b).2.1 := by decide +kernel
theorem tyJ5_ok : ∀ k, k < 0 → parseFieldDescriptor (TJ5 k).2.2.1 = some (tyJ5 k) := by decide +kernel
abbrev cJ5_init_d00df : ByteArray := prog_12_method_2_code
def yJ5_init_d00df : MethodName := ⟨RJ5, "<init>", "(I)V"⟩
abbrev cJ5_length_8abf5 : ByteArray := prog_12_method_6_code
def yJ5_length_8abf5 : MethodName := ⟨RJ5, "length", "()I"⟩
abbrev cJ5_ensureCapacityInternal_d00df : ByteArray := prog_12_method_9_code
def yJ5_ensureCapacityInternal_d00df : MethodName := ⟨RJ5, "ensureCapacityInternal", "(I)V"⟩
abbrev cJ5_newCapacity_0f7a4 : ByteArray := prog_12_method_10_code
def yJ5_newCapacity_0f7a4 : MethodName := ⟨RJ5, "newCapacity", "(I)I"⟩
abbrev cJ5_inflate_da8c8 : ByteArray := prog_12_method_11_code
def yJ5_inflate_da8c8 : MethodName := ⟨RJ5, "inflate", "()V"⟩
abbrev cJ5_append_cf1ce : ByteArray := prog_12_method_22_code
def yJ5_append_cf1ce : MethodName := ⟨RJ5, "append", "(Ljava/lang/String;)Ljava/lang/AbstractStringBuilder;"⟩
abbrev cJ5_appendNull_278bc : ByteArray := prog_12_method_26_code
def yJ5_appendNull_278bc : MethodName := ⟨RJ5, "appendNull", "()Ljava/lang/AbstractStringBuilder;"⟩
abbrev cJ5_append_3fe6f : ByteArray := prog_12_method_31_code
def yJ5_append_3fe6f : MethodName := ⟨RJ5, "append", "(C)Ljava/lang/AbstractStringBuilder;"⟩
abbrev cJ5_append_c97b9 : ByteArray := prog_12_method_32_code
def yJ5_append_c97b9 : MethodName := ⟨RJ5, "append", "(I)Ljava/lang/AbstractStringBuilder;"⟩
abbrev cJ5_getValue_6d5f1 : ByteArray := prog_12_method_64_code
def yJ5_getValue_6d5f1 : MethodName := ⟨RJ5, "getValue", "()[B"⟩
abbrev cJ5_isLatin1_aae02 : ByteArray := prog_12_method_68_code
def yJ5_isLatin1_aae02 : MethodName := ⟨RJ5, "isLatin1", "()Z"⟩
abbrev cJ5_inflateIfNeededFor_a7421 : ByteArray := prog_12_method_71_code
def yJ5_inflateIfNeededFor_a7421 : MethodName := ⟨RJ5, "inflateIfNeededFor", "(Ljava/lang/String;)V"⟩
abbrev cJ5_putStringAt_47b60 : ByteArray := prog_12_method_73_code
def yJ5_putStringAt_47b60 : MethodName := ⟨RJ5, "putStringAt", "(ILjava/lang/String;)V"⟩
def RJx2cfe8 : String := "java/lang/Appendable"
def TJx2cfe8 : u_T := fun k => match k with
  | _ => ("", "", "", false)
def tyJx2cfe8 : Nat → FieldType := fun k => match k with
  | _ => .int
abbrev wsJx2cfe80 : List Cond := u_ws RJx2cfe8 TJx2cfe8 0
theorem nmJx2cfe8 : ∀ a, a < 0 → ∀ b, b < 0 → a ≠ b → (TJx2cfe8 a).2.1 ≠ (TJx2cfe8 b).2.1 := by decide +kernel
theorem tyJx2cfe8_ok : ∀ k, k < 0 → parseFieldDescriptor (TJx2cfe8 k).2.2.1 = some (tyJx2cfe8 k) := by decide +kernel
def RJx9f9b0 : String := "java/lang/CharSequence"
def TJx9f9b0 : u_T := fun k => match k with
  | _ => ("", "", "", false)
def tyJx9f9b0 : Nat → FieldType := fun k => match k with
  | _ => .int
abbrev wsJx9f9b00 : List Cond := u_ws RJx9f9b0 TJx9f9b0 0
theorem nmJx9f9b0 : ∀ a, a < 0 → ∀ b, b < 0 → a ≠ b → (TJx9f9b0 a).2.1 ≠ (TJx9f9b0 b).2.1 := by decide +kernel
theorem tyJx9f9b0_ok : ∀ k, k < 0 → parseFieldDescriptor (TJx9f9b0 k).2.2.1 = some (tyJx9f9b0 k) := by decide +kernel
def RJx8e188 : String := "java/lang/Cloneable"
def TJx8e188 : u_T := fun k => match k with
  | _ => ("", "", "", false)
def tyJx8e188 : Nat → FieldType := fun k => match k with
  | _ => .int
abbrev wsJx8e1880 : List Cond := u_ws RJx8e188 TJx8e188 0
theorem nmJx8e188 : ∀ a, a < 0 → ∀ b, b < 0 → a ≠ b → (TJx8e188 a).2.1 ≠ (TJx8e188 b).2.1 := by decide +kernel
theorem tyJx8e188_ok : ∀ k, k < 0 → parseFieldDescriptor (TJx8e188 k).2.2.1 = some (tyJx8e188 k) := by decide +kernel
def RJxb160c : String := "java/lang/Comparable"
def TJxb160c : u_T := fun k => match k with
  | _ => ("", "", "", false)
def tyJxb160c : Nat → FieldType := fun k => match k with
  | _ => .int
abbrev wsJxb160c0 : List Cond := u_ws RJxb160c TJxb160c 0
theorem nmJxb160c : ∀ a, a < 0 → ∀ b, b < 0 → a ≠ b → (TJxb160c a).2.1 ≠ (TJxb160c b).2.1 := by decide +kernel
theorem tyJxb160c_ok : ∀ k, k < 0 → parseFieldDescriptor (TJxb160c k).2.2.1 = some (tyJxb160c k) := by decide +kernel
def RJ6 : String := "java/lang/Integer"
def TJ6 : u_T := fun k => match k with
  | _ => ("", "", "", false)
def tyJ6 : Nat → FieldType := fun k => match k with
  | _ => .int
abbrev wsJ60 : List Cond := u_ws RJ6 TJ6 0
theorem nmJ6 : ∀ a, a < 0 → ∀ b, b < 0 → a ≠ b → (TJ6 a).2.1 ≠ (TJ6 b).2.1 := by decide +kernel
theorem tyJ6_ok : ∀ k, k < 0 → parseFieldDescriptor (TJ6 k).2.2.1 = some (tyJ6 k) := by decide +kernel
abbrev cJ6_getChars_ba4f3 : ByteArray := prog_16_method_12_code
def yJ6_getChars_ba4f3 : MethodName := ⟨RJ6, "getChars", "(II[B)I"⟩
abbrev cJ6_stringSize_0f7a4 : ByteArray := prog_16_method_13_code
def yJ6_stringSize_0f7a4 : MethodName := ⟨RJ6, "stringSize", "(I)I"⟩
def RJ13 : String := "java/lang/Long"
def TJ13 : u_T := fun k => match k with
  | _ => ("", "", "", false)
def tyJ13 : Nat → FieldType := fun k => match k with
  | _ => .int
abbrev wsJ130 : List Cond := u_ws RJ13 TJ13 0
theorem nmJ13 : ∀ a, a < 0 → ∀ b, b < 0 → a ≠ b → (TJ13 a).2.1 ≠ (TJ13 b).2.1 := by decide +kernel
theorem tyJ13_ok : ∀ k, k < 0 → parseFieldDescriptor (TJ13 k).2.2.1 = some (tyJ13 k) := by decide +kernel
abbrev cJ13_signum_95d88 : ByteArray := prog_17_method_57_code
def yJ13_signum_95d88 : MethodName := ⟨RJ13, "signum", "(J)I"⟩
def RJ9 : String := "java/lang/Math"
def TJ9 : u_T := fun k => match k with
  | _ => ("", "", "", false)
def tyJ9 : Nat → FieldType := fun k => match k with
  | _ => .int
abbrev wsJ90 : List Cond := u_ws RJ9 TJ9 0
theorem nmJ9 : ∀ a, a < 0 → ∀ b, b < 0 → a ≠ b → (TJ9 a).2.1 ≠ (TJ9 b).2.1 := by decide +kernel
theorem tyJ9_ok : ∀ k, k < 0 → parseFieldDescriptor (TJ9 k).2.2.1 = some (tyJ9 k) := by decide +kernel
abbrev cJ9_max_7cf53 : ByteArray := prog_18_method_65_code
def yJ9_max_7cf53 : MethodName := ⟨RJ9, "max", "(II)I"⟩
abbrev cJ9_min_7cf53 : ByteArray := prog_18_method_69_code
def yJ9_min_7cf53 : MethodName := ⟨RJ9, "min", "(II)I"⟩
def RJxd2413 : String := "java/lang/Number"
def TJxd2413 : u_T := fun k => match k with
  | _ => ("", "", "", false)
def tyJxd2413 : Nat → FieldType := fun k => match k with
  | _ => .int
abbrev wsJxd24130 : List Cond := u_ws RJxd2413 TJxd2413 0
theorem nmJxd2413 : ∀ a, a < 0 → ∀ b, b < 0 → a ≠ b → (TJxd2413 a).2.1 ≠ (TJxd2413 b).2.1 := by decide +kernel
theorem tyJxd2413_ok : ∀ k, k < 0 → parseFieldDescriptor (TJxd2413 k).2.2.1 = some (tyJxd2413 k) := by decide +kernel
def RJ0 : String := "java/lang/String"
def TJ0 : u_T := fun k => match k with
  | 0 => ("java/lang/String", "value", "[B", true)
  | 1 => ("java/lang/String", "coder", "B", true)
  | 2 => ("java/lang/String", "hash", "I", false)
  | _ => ("java/lang/String", "hashIsZero", "Z", false)
def tyJ0 : Nat → FieldType := fun k => match k with
  | 0 => .array .byte
  | 1 => .byte
  | 2 => .int
  | _ => .boolean
abbrev wsJ00 : List Cond := u_ws RJ0 TJ0 4
theorem nmJ0 : ∀ a, a < 4 → ∀ b, b < 4 → a ≠ b → (TJ0 a).2.1 ≠ (TJ0 b).2.1 := by decide +kernel
theorem tyJ0_ok : ∀ k, k < 4 → parseFieldDescriptor (TJ0 k).2.2.1 = some (tyJ0 k) := by decide +kernel
abbrev cJ0_init_81219 : ByteArray := prog_21_method_53_code
def yJ0_init_81219 : MethodName := ⟨RJ0, "<init>", "(Ljava/lang/StringBuilder;)V"⟩
abbrev cJ0_length_8abf5 : ByteArray := prog_21_method_54_code
def yJ0_length_8abf5 : MethodName := ⟨RJ0, "length", "()I"⟩
abbrev cJ0_charAt_5068e : ByteArray := prog_21_method_56_code
def yJ0_charAt_5068e : MethodName := ⟨RJ0, "charAt", "(I)C"⟩
abbrev cJ0_getBytes_840e7 : ByteArray := prog_21_method_147_code
def yJ0_getBytes_840e7 : MethodName := ⟨RJ0, "getBytes", "([BIB)V"⟩
abbrev cJ0_init_db425 : ByteArray := prog_21_method_150_code
def yJ0_init_db425 : MethodName := ⟨RJ0, "<init>", "(Ljava/lang/AbstractStringBuilder;Ljava/lang/Void;)V"⟩
abbrev cJ0_coder_7d493 : ByteArray := prog_21_method_152_code
def yJ0_coder_7d493 : MethodName := ⟨RJ0, "coder", "()B"⟩
abbrev cJ0_isLatin1_aae02 : ByteArray := prog_21_method_154_code
def yJ0_isLatin1_aae02 : MethodName := ⟨RJ0, "isLatin1", "()Z"⟩
abbrev cJ0_checkIndex_df160 : ByteArray := prog_21_method_155_code
def yJ0_checkIndex_df160 : MethodName := ⟨RJ0, "checkIndex", "(II)V"⟩
abbrev cJ0_checkBoundsOffCount_cabcc : ByteArray := prog_21_method_157_code
def yJ0_checkBoundsOffCount_cabcc : MethodName := ⟨RJ0, "checkBoundsOffCount", "(III)I"⟩
abbrev cJ0_checkBoundsBeginEnd_23922 : ByteArray := prog_21_method_158_code
def yJ0_checkBoundsBeginEnd_23922 : MethodName := ⟨RJ0, "checkBoundsBeginEnd", "(III)V"⟩
def RJ4 : String := "java/lang/StringBuilder"
def TJ4 : u_T := fun k => match k with
  | 0 => ("java/lang/AbstractStringBuilder", "value", "[B", false)
  | 1 => ("java/lang/AbstractStringBuilder", "coder", "B", false)
  | 2 => ("java/lang/AbstractStringBuilder", "maybeLatin1", "Z", false)
  | _ => ("java/lang/AbstractStringBuilder", "count", "I", false)
def tyJ4 : Nat → FieldType := fun k => match k with
  | 0 => .array .byte
  | 1 => .byte
  | 2 => .boolean
  | _ => .int
abbrev wsJ40 : List Cond := u_ws RJ4 TJ4 4
theorem nmJ4 : ∀ a, a < 4 → ∀ b, b < 4 → a ≠ b → (TJ4 a).2.1 ≠ (TJ4 b).2.1 := by decide +kernel
theorem tyJ4_ok : ∀ k, k < 4 → parseFieldDescriptor (TJ4 k).2.2.1 = some (tyJ4 k) := by decide +kernel
abbrev cJ4_init_da8c8 : ByteArray := prog_22_method_1_code
def yJ4_init_da8c8 : MethodName := ⟨RJ4, "<init>", "()V"⟩
abbrev cJ4_append_15ec4 : ByteArray := prog_22_method_7_code
def yJ4_append_15ec4 : MethodName := ⟨RJ4, "append", "(Ljava/lang/String;)Ljava/lang/StringBuilder;"⟩
abbrev cJ4_append_cf468 : ByteArray := prog_22_method_14_code
def yJ4_append_cf468 : MethodName := ⟨RJ4, "append", "(C)Ljava/lang/StringBuilder;"⟩
abbrev cJ4_append_bf812 : ByteArray := prog_22_method_15_code
def yJ4_append_bf812 : MethodName := ⟨RJ4, "append", "(I)Ljava/lang/StringBuilder;"⟩
abbrev cJ4_toString_0e30d : ByteArray := prog_22_method_42_code
def yJ4_toString_0e30d : MethodName := ⟨RJ4, "toString", "()Ljava/lang/String;"⟩
abbrev cJ4_length_8abf5 : ByteArray := prog_22_method_93_code
def yJ4_length_8abf5 : MethodName := ⟨RJ4, "length", "()I"⟩
def RJ1 : String := "java/lang/StringLatin1"
def TJ1 : u_T := fun k => match k with
  | _ => ("", "", "", false)
def tyJ1 : Nat → FieldType := fun k => match k with
  | _ => .int
abbrev wsJ10 : List Cond := u_ws RJ1 TJ1 0
theorem nmJ1 : ∀ a, a < 0 → ∀ b, b < 0 → a ≠ b → (TJ1 a).2.1 ≠ (TJ1 b).2.1 := by decide +kernel
theorem tyJ1_ok : ∀ k, k < 0 → parseFieldDescriptor (TJ1 k).2.2.1 = some (tyJ1 k) := by decide +kernel
abbrev cJ1_charAt_3b067 : ByteArray := prog_23_method_2_code
def yJ1_charAt_3b067 : MethodName := ⟨RJ1, "charAt", "([BI)C"⟩
abbrev cJ1_canEncode_fc78d : ByteArray := prog_23_method_3_code
def yJ1_canEncode_fc78d : MethodName := ⟨RJ1, "canEncode", "(C)Z"⟩
abbrev cJ1_inflate_0e8fd : ByteArray := prog_23_method_50_code
def yJ1_inflate_0e8fd : MethodName := ⟨RJ1, "inflate", "([BI[BII)V"⟩
def RJ2 : String := "java/lang/StringUTF16"
def TJ2 : u_T := fun k => match k with
  | _ => ("", "", "", false)
def tyJ2 : Nat → FieldType := fun k => match k with
  | _ => .int
abbrev wsJ20 : List Cond := u_ws RJ2 TJ2 0
theorem nmJ2 : ∀ a, a < 0 → ∀ b, b < 0 → a ≠ b → (TJ2 a).2.1 ≠ (TJ2 b).2.1 := by decide +kernel
theorem tyJ2_ok : ∀ k, k < 0 → parseFieldDescriptor (TJ2 k).2.2.1 = some (tyJ2 k) := by decide +kernel
abbrev cJ2_newBytesFor_77867 : ByteArray := prog_24_method_2_code
def yJ2_newBytesFor_77867 : MethodName := ⟨RJ2, "newBytesFor", "(I)[B"⟩
abbrev cJ2_newBytesLength_0f7a4 : ByteArray := prog_24_method_3_code
def yJ2_newBytesLength_0f7a4 : MethodName := ⟨RJ2, "newBytesLength", "(I)I"⟩
abbrev cJ2_putChar_b72d1 : ByteArray := prog_24_method_4_code
def yJ2_putChar_b72d1 : MethodName := ⟨RJ2, "putChar", "([BII)V"⟩
abbrev cJ2_getChar_3b067 : ByteArray := prog_24_method_5_code
def yJ2_getChar_3b067 : MethodName := ⟨RJ2, "getChar", "([BI)C"⟩
abbrev cJ2_length_9d52b : ByteArray := prog_24_method_6_code
def yJ2_length_9d52b : MethodName := ⟨RJ2, "length", "([B)I"⟩
abbrev cJ2_coderFromArrayLen_85cad : ByteArray := prog_24_method_15_code
def yJ2_coderFromArrayLen_85cad : MethodName := ⟨RJ2, "coderFromArrayLen", "([BI)B"⟩
abbrev cJ2_compress_39247 : ByteArray := prog_24_method_17_code
def yJ2_compress_39247 : MethodName := ⟨RJ2, "compress", "([BII)[B"⟩
abbrev cJ2_compress_5af95 : ByteArray := prog_24_method_22_code
def yJ2_compress_5af95 : MethodName := ⟨RJ2, "compress", "([BI[BII)I"⟩
abbrev cJ2_putCharSB_b72d1 : ByteArray := prog_24_method_71_code
def yJ2_putCharSB_b72d1 : MethodName := ⟨RJ2, "putCharSB", "([BII)V"⟩
abbrev cJ2_getChars_46870 : ByteArray := prog_24_method_77_code
def yJ2_getChars_46870 : MethodName := ⟨RJ2, "getChars", "(III[B)I"⟩
abbrev cJ2_putCharsAt_cd4e5 : ByteArray := prog_24_method_81_code
def yJ2_putCharsAt_cd4e5 : MethodName := ⟨RJ2, "putCharsAt", "([BICCCC)I"⟩
abbrev cJ2_charAt_3b067 : ByteArray := prog_24_method_83_code
def yJ2_charAt_3b067 : MethodName := ⟨RJ2, "charAt", "([BI)C"⟩
abbrev cJ2_inflate_0e8fd : ByteArray := prog_24_method_86_code
def yJ2_inflate_0e8fd : MethodName := ⟨RJ2, "inflate", "([BI[BII)V"⟩
abbrev cJ2_getChars_ba4f3 : ByteArray := prog_24_method_89_code
def yJ2_getChars_ba4f3 : MethodName := ⟨RJ2, "getChars", "(II[B)I"⟩
abbrev cJ2_checkIndex_2214a : ByteArray := prog_24_method_91_code
def yJ2_checkIndex_2214a : MethodName := ⟨RJ2, "checkIndex", "(I[B)V"⟩
abbrev cJ2_checkBoundsBeginEnd_d044e : ByteArray := prog_24_method_93_code
def yJ2_checkBoundsBeginEnd_d044e : MethodName := ⟨RJ2, "checkBoundsBeginEnd", "(II[B)V"⟩
abbrev cJ2_checkBoundsOffCount_d044e : ByteArray := prog_24_method_94_code
def yJ2_checkBoundsOffCount_d044e : MethodName := ⟨RJ2, "checkBoundsOffCount", "(II[B)V"⟩
def RJ10 : String := "java/lang/System"
def TJ10 : u_T := fun k => match k with
  | _ => ("", "", "", false)
def tyJ10 : Nat → FieldType := fun k => match k with
  | _ => .int
abbrev wsJ100 : List Cond := u_ws RJ10 TJ10 0
theorem nmJ10 : ∀ a, a < 0 → ∀ b, b < 0 → a ≠ b → (TJ10 a).2.1 ≠ (TJ10 b).2.1 := by decide +kernel
theorem tyJ10_ok : ∀ k, k < 0 → parseFieldDescriptor (TJ10 k).2.2.1 = some (tyJ10 k) := by decide +kernel
def RJxfd54e : String := "java/lang/constant/Constable"
def TJxfd54e : u_T := fun k => match k with
  | _ => ("", "", "", false)
def tyJxfd54e : Nat → FieldType := fun k => match k with
  | _ => .int
abbrev wsJxfd54e0 : List Cond := u_ws RJxfd54e TJxfd54e 0
theorem nmJxfd54e : ∀ a, a < 0 → ∀ b, b < 0 → a ≠ b → (TJxfd54e a).2.1 ≠ (TJxfd54e b).2.1 := by decide +kernel
theorem tyJxfd54e_ok : ∀ k, k < 0 → parseFieldDescriptor (TJxfd54e k).2.2.1 = some (tyJxfd54e k) := by decide +kernel
def RJx3cf43 : String := "java/lang/constant/ConstantDesc"
def TJx3cf43 : u_T := fun k => match k with
  | _ => ("", "", "", false)
def tyJx3cf43 : Nat → FieldType := fun k => match k with
  | _ => .int
abbrev wsJx3cf430 : List Cond := u_ws RJx3cf43 TJx3cf43 0
theorem nmJx3cf43 : ∀ a, a < 0 → ∀ b, b < 0 → a ≠ b → (TJx3cf43 a).2.1 ≠ (TJx3cf43 b).2.1 := by decide +kernel
theorem tyJx3cf43_ok : ∀ k, k < 0 → parseFieldDescriptor (TJx3cf43 k).2.2.1 = some (tyJx3cf43 k) := by decide +kernel
def RJ7 : String := "java/util/Arrays"
def TJ7 : u_T := fun k => match k with
  | _ => ("", "", "", false)
def tyJ7 : Nat → FieldType := fun k => match k with
  | _ => .int
abbrev wsJ70 : List Cond := u_ws RJ7 TJ7 0
theorem nmJ7 : ∀ a, a < 0 → ∀ b, b < 0 → a ≠ b → (TJ7 a).2.1 ≠ (TJ7 b).2.1 := by decide +kernel
theorem tyJ7_ok : ∀ k, k < 0 → parseFieldDescriptor (TJ7 k).2.2.1 = some (tyJ7 k) := by decide +kernel
abbrev cJ7_fill_53178 : ByteArray := prog_27_method_103_code
def yJ7_fill_53178 : MethodName := ⟨RJ7, "fill", "([II)V"⟩
abbrev cJ7_copyOf_9075b : ByteArray := prog_27_method_121_code
def yJ7_copyOf_9075b : MethodName := ⟨RJ7, "copyOf", "([BI)[B"⟩
abbrev cJ7_checkLength_df160 : ByteArray := prog_27_method_131_code
def yJ7_checkLength_df160 : MethodName := ⟨RJ7, "checkLength", "(II)V"⟩
abbrev cJ7_copyOfRange_39247 : ByteArray := prog_27_method_132_code
def yJ7_copyOfRange_39247 : MethodName := ⟨RJ7, "copyOfRange", "([BII)[B"⟩
abbrev cJ7_copyOfRangeByte_39247 : ByteArray := prog_27_method_133_code
def yJ7_copyOfRangeByte_39247 : MethodName := ⟨RJ7, "copyOfRangeByte", "([BII)[B"⟩
def RJ8 : String := "jdk/internal/util/ArraysSupport"
def TJ8 : u_T := fun k => match k with
  | _ => ("", "", "", false)
def tyJ8 : Nat → FieldType := fun k => match k with
  | _ => .int
abbrev wsJ80 : List Cond := u_ws RJ8 TJ8 0
theorem nmJ8 : ∀ a, a < 0 → ∀ b, b < 0 → a ≠ b → (TJ8 a).2.1 ≠ (TJ8 b).2.1 := by decide +kernel
theorem tyJ8_ok : ∀ k, k < 0 → parseFieldDescriptor (TJ8 k).2.2.1 = some (tyJ8 k) := by decide +kernel
abbrev cJ8_newLength_cabcc : ByteArray := prog_28_method_27_code
def yJ8_newLength_cabcc : MethodName := ⟨RJ8, "newLength", "(III)I"⟩
abbrev cJ8_hugeLength_7cf53 : ByteArray := prog_28_method_28_code
def yJ8_hugeLength_7cf53 : MethodName := ⟨RJ8, "hugeLength", "(II)I"⟩
def RJ3 : String := "jdk/internal/util/Preconditions"
def TJ3 : u_T := fun k => match k with
  | _ => ("", "", "", false)
def tyJ3 : Nat → FieldType := fun k => match k with
  | _ => .int
abbrev wsJ30 : List Cond := u_ws RJ3 TJ3 0
theorem nmJ3 : ∀ a, a < 0 → ∀ b, b < 0 → a ≠ b → (TJ3 a).2.1 ≠ (TJ3 b).2.1 := by decide +kernel
theorem tyJ3_ok : ∀ k, k < 0 → parseFieldDescriptor (TJ3 k).2.2.1 = some (tyJ3 k) := by decide +kernel
abbrev cJ3_checkIndex_8e157 : ByteArray := prog_29_method_11_code
def yJ3_checkIndex_8e157 : MethodName := ⟨RJ3, "checkIndex", "(IILjava/util/function/BiFunction;)I"⟩
abbrev cJ3_checkFromToIndex_8c36e : ByteArray := prog_29_method_12_code
def yJ3_checkFromToIndex_8c36e : MethodName := ⟨RJ3, "checkFromToIndex", "(IIILjava/util/function/BiFunction;)I"⟩
abbrev cJ3_checkFromIndexSize_8c36e : ByteArray := prog_29_method_13_code
def yJ3_checkFromIndexSize_8c36e : MethodName := ⟨RJ3, "checkFromIndexSize", "(IIILjava/util/function/BiFunction;)I"⟩
def RL : String := "CurveMeetingsLaw"
abbrev cL_cell : ByteArray := method_2_code
def yL_cell : MethodName := ⟨RL, "cell", "([II)I"⟩
abbrev cL_in : ByteArray := method_3_code
def yL_in : MethodName := ⟨RL, "in", "(II)I"⟩
abbrev cL_put : ByteArray := method_4_code
def yL_put : MethodName := ⟨RL, "put", "(LCurveMeetings;Ljava/lang/String;)V"⟩
abbrev cL_statements : ByteArray := method_5_code
def yL_statements : MethodName := ⟨RL, "statements", "(Ljava/lang/String;)I"⟩
abbrev cL_curves : ByteArray := method_6_code
def yL_curves : MethodName := ⟨RL, "curves", "([I)I"⟩
abbrev cL_lines : ByteArray := method_7_code
def yL_lines : MethodName := ⟨RL, "lines", "([I)I"⟩
abbrev cL_limit : ByteArray := method_8_code
def yL_limit : MethodName := ⟨RL, "limit", "([I)I"⟩
abbrev cL_depth : ByteArray := method_9_code
def yL_depth : MethodName := ⟨RL, "depth", "([I)I"⟩
abbrev cL_points : ByteArray := method_10_code
def yL_points : MethodName := ⟨RL, "points", "([II)I"⟩
abbrev cL_point : ByteArray := method_11_code
def yL_point : MethodName := ⟨RL, "point", "([IIII)I"⟩
abbrev cL_line : ByteArray := method_12_code
def yL_line : MethodName := ⟨RL, "line", "([III)I"⟩
abbrev cL_name : ByteArray := method_13_code
def yL_name : MethodName := ⟨RL, "name", "(Ljava/lang/String;I)Ljava/lang/String;"⟩
abbrev cL_signed : ByteArray := method_14_code
def yL_signed : MethodName := ⟨RL, "signed", "(I)Ljava/lang/String;"⟩
abbrev cL_text : ByteArray := method_15_code
def yL_text : MethodName := ⟨RL, "text", "([I)Ljava/lang/String;"⟩
abbrev cL_figure : ByteArray := method_16_code
def yL_figure : MethodName := ⟨RL, "figure", "([I)LCurveMeetings;"⟩
abbrev cL_changes : ByteArray := method_17_code
def yL_changes : MethodName := ⟨RL, "changes", "(LCurveMeetings;I)V"⟩
abbrev cL_binomial : ByteArray := method_19_code
def yL_binomial : MethodName := ⟨RL, "binomial", "(II)J"⟩
abbrev cL_at : ByteArray := method_20_code
def yL_at : MethodName := ⟨RL, "at", "([JIJJ)J"⟩
abbrev cL_coefficients : ByteArray := method_21_code
def yL_coefficients : MethodName := ⟨RL, "coefficients", "(LCurveMeetings;II)[J"⟩
abbrev cL_isCut : ByteArray := method_22_code
def yL_isCut : MethodName := ⟨RL, "isCut", "(LCurveMeetings;III)Z"⟩
abbrev cL_isRooted : ByteArray := method_23_code
def yL_isRooted : MethodName := ⟨RL, "isRooted", "(LCurveMeetings;II)Z"⟩
abbrev cL_law : ByteArray := code
def yL_law : MethodName := ⟨RL, "law", "([I)Z"⟩
abbrev vwCl : List vw_C := [(RX0, TX0, 6), (RX1, TX1, 4), (RX2, TX2, 1), (RX3, TX3, 3), (RX4, TX4, 2), (RX5, TX5, 6), (RX6, TX6, 7), (RX7, TX7, 8), (RX8, TX8, 10), (RJ0, TJ0, 4), (RJ4, TJ4, 4)]
