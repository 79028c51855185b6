/-! ===== BEGIN printed: names, fields, word lists, decode rows ===== -/
def RX0 : String := "ToolCrib$Drawing"
def TX0 : u_T := fun k => match k with
  | 0 => ("ToolCrib$Drawing", "cells", "[I", true)
  | 1 => ("ToolCrib$Drawing", "heights", "[I", true)
  | 2 => ("ToolCrib$Drawing", "tolerances", "[I", true)
  | 3 => ("ToolCrib$Drawing", "more", "[I", true)
  | 4 => ("ToolCrib$Drawing", "papersLeft", "[I", true)
  | _ => ("ToolCrib$Drawing", "size", "I", false)
def tyX0 : Nat → FieldType := fun k => match k with
  | 0 => .array .int
  | 1 => .array .int
  | 2 => .array .int
  | 3 => .array .int
  | 4 => .array .int
  | _ => .int
theorem nmX0 : ∀ a, a < 6 → ∀ b, b < 6 → a ≠ b → (TX0 a).2.1 ≠ (TX0 b).2.1 := by decide +kernel
theorem tyX0_ok : ∀ k, k < 6 → parseFieldDescriptor (TX0 k).2.2.1 = some (tyX0 k) := by decide +kernel
abbrev cX0_init : ByteArray := prog_2_method_1_code
def yX0_init : MethodName := ⟨RX0, "<init>", "()V"⟩
abbrev cX0_append : ByteArray := prog_2_method_2_code
def yX0_append : MethodName := ⟨RX0, "append", "(III)V"⟩
abbrev cX0_toleranceNow : ByteArray := prog_2_method_3_code
def yX0_toleranceNow : MethodName := ⟨RX0, "toleranceNow", "(I)I"⟩
abbrev cX0_spendPaper : ByteArray := prog_2_method_4_code
def yX0_spendPaper : MethodName := ⟨RX0, "spendPaper", "()V"⟩
def RX1 : String := "ToolCrib$Gauge"
def TX1 : u_T := fun k => match k with
  | 0 => ("ToolCrib$Gauge", "since", "I", false)
  | _ => ("ToolCrib$Gauge", "doubt", "I", false)
def tyX1 : Nat → FieldType := fun k => match k with
  | 0 => .int
  | _ => .int
theorem nmX1 : ∀ a, a < 2 → ∀ b, b < 2 → a ≠ b → (TX1 a).2.1 ≠ (TX1 b).2.1 := by decide +kernel
theorem tyX1_ok : ∀ k, k < 2 → parseFieldDescriptor (TX1 k).2.2.1 = some (tyX1 k) := by decide +kernel
abbrev cX1_init : ByteArray := prog_3_method_1_code
def yX1_init : MethodName := ⟨RX1, "<init>", "()V"⟩
abbrev cX1_isGood : ByteArray := prog_3_method_2_code
def yX1_isGood : MethodName := ⟨RX1, "isGood", "(I)Z"⟩
abbrev cX1_reads : ByteArray := prog_3_method_3_code
def yX1_reads : MethodName := ⟨RX1, "reads", "(II)I"⟩
def RX2 : String := "ToolCrib$Pallet"
def TX2 : u_T := fun k => match k with
  | 0 => ("ToolCrib$Pallet", "heights", "[I", true)
  | 1 => ("ToolCrib$Pallet", "sizes", "[I", true)
  | 2 => ("ToolCrib$Pallet", "cutters", "[I", true)
  | 3 => ("ToolCrib$Pallet", "causes", "[I", true)
  | 4 => ("ToolCrib$Pallet", "clamps", "[I", true)
  | 5 => ("ToolCrib$Pallet", "clamped", "I", false)
  | 6 => ("ToolCrib$Pallet", "state", "I", false)
  | 7 => ("ToolCrib$Pallet", "program", "I", false)
  | 8 => ("ToolCrib$Pallet", "gone", "I", false)
  | _ => ("ToolCrib$Pallet", "judged", "I", false)
def tyX2 : Nat → FieldType := fun k => match k with
  | 0 => .array .int
  | 1 => .array .int
  | 2 => .array .int
  | 3 => .array .int
  | 4 => .array .int
  | 5 => .int
  | 6 => .int
  | 7 => .int
  | 8 => .int
  | _ => .int
theorem nmX2 : ∀ a, a < 10 → ∀ b, b < 10 → a ≠ b → (TX2 a).2.1 ≠ (TX2 b).2.1 := by decide +kernel
theorem tyX2_ok : ∀ k, k < 10 → parseFieldDescriptor (TX2 k).2.2.1 = some (tyX2 k) := by decide +kernel
abbrev cX2_init : ByteArray := prog_4_method_1_code
def yX2_init : MethodName := ⟨RX2, "<init>", "(I)V"⟩
def RX3 : String := "ToolCrib$Paper"
def TX3 : u_T := fun k => match k with
  | 0 => ("ToolCrib$Paper", "pallet", "I", true)
  | 1 => ("ToolCrib$Paper", "drawing", "I", true)
  | 2 => ("ToolCrib$Paper", "written", "I", true)
  | 3 => ("ToolCrib$Paper", "doubt", "I", true)
  | 4 => ("ToolCrib$Paper", "aways", "[I", true)
  | 5 => ("ToolCrib$Paper", "tolerances", "[I", true)
  | _ => ("ToolCrib$Paper", "size", "I", false)
def tyX3 : Nat → FieldType := fun k => match k with
  | 0 => .int
  | 1 => .int
  | 2 => .int
  | 3 => .int
  | 4 => .array .int
  | 5 => .array .int
  | _ => .int
theorem nmX3 : ∀ a, a < 7 → ∀ b, b < 7 → a ≠ b → (TX3 a).2.1 ≠ (TX3 b).2.1 := by decide +kernel
theorem tyX3_ok : ∀ k, k < 7 → parseFieldDescriptor (TX3 k).2.2.1 = some (tyX3 k) := by decide +kernel
abbrev cX3_init : ByteArray := prog_5_method_1_code
def yX3_init : MethodName := ⟨RX3, "<init>", "(IIII)V"⟩
abbrev cX3_append : ByteArray := prog_5_method_2_code
def yX3_append : MethodName := ⟨RX3, "append", "(II)V"⟩
abbrev cX3_verdict : ByteArray := prog_5_method_3_code
def yX3_verdict : MethodName := ⟨RX3, "verdict", "()I"⟩
def RX4 : String := "ToolCrib$Program"
def TX4 : u_T := fun k => match k with
  | 0 => ("ToolCrib$Program", "words", "[I", true)
  | 1 => ("ToolCrib$Program", "values", "[I", true)
  | _ => ("ToolCrib$Program", "size", "I", false)
def tyX4 : Nat → FieldType := fun k => match k with
  | 0 => .array .int
  | 1 => .array .int
  | _ => .int
theorem nmX4 : ∀ a, a < 3 → ∀ b, b < 3 → a ≠ b → (TX4 a).2.1 ≠ (TX4 b).2.1 := by decide +kernel
theorem tyX4_ok : ∀ k, k < 3 → parseFieldDescriptor (TX4 k).2.2.1 = some (tyX4 k) := by decide +kernel
abbrev cX4_init : ByteArray := prog_6_method_1_code
def yX4_init : MethodName := ⟨RX4, "<init>", "()V"⟩
abbrev cX4_append : ByteArray := prog_6_method_2_code
def yX4_append : MethodName := ⟨RX4, "append", "(II)V"⟩
def RX5 : String := "ToolCrib$Tool"
def TX5 : u_T := fun k => match k with
  | 0 => ("ToolCrib$Tool", "number", "I", true)
  | 1 => ("ToolCrib$Tool", "kind", "I", true)
  | 2 => ("ToolCrib$Tool", "life", "I", true)
  | 3 => ("ToolCrib$Tool", "latest", "[I", true)
  | 4 => ("ToolCrib$Tool", "used", "I", false)
  | 5 => ("ToolCrib$Tool", "offset", "I", false)
  | 6 => ("ToolCrib$Tool", "told", "I", false)
  | _ => ("ToolCrib$Tool", "isIn", "Z", false)
def tyX5 : Nat → FieldType := fun k => match k with
  | 0 => .int
  | 1 => .int
  | 2 => .int
  | 3 => .array .int
  | 4 => .int
  | 5 => .int
  | 6 => .int
  | _ => .boolean
theorem nmX5 : ∀ a, a < 8 → ∀ b, b < 8 → a ≠ b → (TX5 a).2.1 ≠ (TX5 b).2.1 := by decide +kernel
theorem tyX5_ok : ∀ k, k < 8 → parseFieldDescriptor (TX5 k).2.2.1 = some (tyX5 k) := by decide +kernel
abbrev cX5_init : ByteArray := prog_7_method_1_code
def yX5_init : MethodName := ⟨RX5, "<init>", "(III)V"⟩
abbrev cX5_leftFor : ByteArray := prog_7_method_2_code
def yX5_leftFor : MethodName := ⟨RX5, "leftFor", "(I)I"⟩
abbrev cX5_hear : ByteArray := prog_7_method_3_code
def yX5_hear : MethodName := ⟨RX5, "hear", "(I)V"⟩
abbrev cX5_correctOffset : ByteArray := prog_7_method_4_code
def yX5_correctOffset : MethodName := ⟨RX5, "correctOffset", "()I"⟩
abbrev cX5_isOneWay : ByteArray := prog_7_method_5_code
def yX5_isOneWay : MethodName := ⟨RX5, "isOneWay", "()Z"⟩
def RX6 : String := "ToolCrib$Trial"
def TX6 : u_T := fun k => match k with
  | 0 => ("ToolCrib$Trial", "heights", "[I", true)
  | 1 => ("ToolCrib$Trial", "cutsByKind", "[I", true)
  | 2 => ("ToolCrib$Trial", "steps", "I", false)
  | 3 => ("ToolCrib$Trial", "cuts", "I", false)
  | _ => ("ToolCrib$Trial", "wrong", "I", false)
def tyX6 : Nat → FieldType := fun k => match k with
  | 0 => .array .int
  | 1 => .array .int
  | 2 => .int
  | 3 => .int
  | _ => .int
theorem nmX6 : ∀ a, a < 5 → ∀ b, b < 5 → a ≠ b → (TX6 a).2.1 ≠ (TX6 b).2.1 := by decide +kernel
theorem tyX6_ok : ∀ k, k < 5 → parseFieldDescriptor (TX6 k).2.2.1 = some (tyX6 k) := by decide +kernel
abbrev cX6_init : ByteArray := prog_8_method_1_code
def yX6_init : MethodName := ⟨RX6, "<init>", "()V"⟩
abbrev cX6_run : ByteArray := prog_8_method_2_code
def yX6_run : MethodName := ⟨RX6, "run", "(LToolCrib$Walk;LToolCrib$Pallet;II)V"⟩
def RX7 : String := "ToolCrib$Walk"
def TX7 : u_T := fun k => match k with
  | 0 => ("ToolCrib$Walk", "programs", "Ljava/util/ArrayList;", true)
  | 1 => ("ToolCrib$Walk", "open", "Ljava/util/ArrayList;", true)
  | 2 => ("ToolCrib$Walk", "next", "[I", true)
  | 3 => ("ToolCrib$Walk", "at", "[I", true)
  | 4 => ("ToolCrib$Walk", "axis", "I", false)
  | 5 => ("ToolCrib$Walk", "goal", "I", false)
  | 6 => ("ToolCrib$Walk", "blocksDone", "I", false)
  | 7 => ("ToolCrib$Walk", "isCutting", "Z", false)
  | 8 => ("ToolCrib$Walk", "isFromSpindle", "Z", false)
  | 9 => ("ToolCrib$Walk", "kind", "I", false)
  | _ => ("ToolCrib$Walk", "wrong", "I", false)
def tyX7 : Nat → FieldType := fun k => match k with
  | 0 => .object "java/util/ArrayList"
  | 1 => .object "java/util/ArrayList"
  | 2 => .array .int
  | 3 => .array .int
  | 4 => .int
  | 5 => .int
  | 6 => .int
  | 7 => .boolean
  | 8 => .boolean
  | 9 => .int
  | _ => .int
theorem nmX7 : ∀ a, a < 11 → ∀ b, b < 11 → a ≠ b → (TX7 a).2.1 ≠ (TX7 b).2.1 := by decide +kernel
theorem tyX7_ok : ∀ k, k < 11 → parseFieldDescriptor (TX7 k).2.2.1 = some (tyX7 k) := by decide +kernel
abbrev cX7_init : ByteArray := prog_9_method_1_code
def yX7_init : MethodName := ⟨RX7, "<init>", "()V"⟩
abbrev cX7_begin : ByteArray := prog_9_method_2_code
def yX7_begin : MethodName := ⟨RX7, "begin", "(I)V"⟩
abbrev cX7_goStep : ByteArray := prog_9_method_3_code
def yX7_goStep : MethodName := ⟨RX7, "goStep", "()Z"⟩
abbrev cX7_cellNow : ByteArray := prog_9_method_4_code
def yX7_cellNow : MethodName := ⟨RX7, "cellNow", "()I"⟩
abbrev cX7_isBelow : ByteArray := prog_9_method_5_code
def yX7_isBelow : MethodName := ⟨RX7, "isBelow", "([I)Z"⟩
abbrev cX7_canCut : ByteArray := prog_9_method_6_code
def yX7_canCut : MethodName := ⟨RX7, "canCut", "()Z"⟩
abbrev cX7_leaveEnded : ByteArray := prog_9_method_7_code
def yX7_leaveEnded : MethodName := ⟨RX7, "leaveEnded", "()V"⟩
abbrev cX7_obeyNext : ByteArray := prog_9_method_8_code
def yX7_obeyNext : MethodName := ⟨RX7, "obeyNext", "(I)V"⟩
abbrev cX7_changeTool : ByteArray := prog_9_method_9_code
def yX7_changeTool : MethodName := ⟨RX7, "changeTool", "(I)V"⟩
abbrev cX7_enter : ByteArray := prog_9_method_10_code
def yX7_enter : MethodName := ⟨RX7, "enter", "(I)V"⟩
abbrev cX7_aim : ByteArray := prog_9_method_11_code
def yX7_aim : MethodName := ⟨RX7, "aim", "(III)V"⟩
def RX8 : String := "ToolCrib"
def TX8 : u_T := fun k => match k with
  | 0 => ("ToolCrib", "tools", "Ljava/util/ArrayList;", true)
  | 1 => ("ToolCrib", "pallets", "Ljava/util/ArrayList;", true)
  | 2 => ("ToolCrib", "queue", "Ljava/util/ArrayList;", true)
  | 3 => ("ToolCrib", "gauges", "Ljava/util/ArrayList;", true)
  | 4 => ("ToolCrib", "drawings", "Ljava/util/ArrayList;", true)
  | 5 => ("ToolCrib", "papers", "Ljava/util/ArrayList;", true)
  | 6 => ("ToolCrib", "mapErrors", "[I", true)
  | 7 => ("ToolCrib", "errorParts", "[I", true)
  | 8 => ("ToolCrib", "livesLeft", "[I", true)
  | 9 => ("ToolCrib", "walk", "LToolCrib$Walk;", true)
  | 10 => ("ToolCrib", "trial", "LToolCrib$Trial;", true)
  | 11 => ("ToolCrib", "now", "I", false)
  | _ => ("ToolCrib", "heat", "I", false)
def tyX8 : Nat → FieldType := fun k => match k with
  | 0 => .object "java/util/ArrayList"
  | 1 => .object "java/util/ArrayList"
  | 2 => .object "java/util/ArrayList"
  | 3 => .object "java/util/ArrayList"
  | 4 => .object "java/util/ArrayList"
  | 5 => .object "java/util/ArrayList"
  | 6 => .array .int
  | 7 => .array .int
  | 8 => .array .int
  | 9 => .object "ToolCrib$Walk"
  | 10 => .object "ToolCrib$Trial"
  | 11 => .int
  | _ => .int
theorem nmX8 : ∀ a, a < 13 → ∀ b, b < 13 → a ≠ b → (TX8 a).2.1 ≠ (TX8 b).2.1 := by decide +kernel
theorem tyX8_ok : ∀ k, k < 13 → parseFieldDescriptor (TX8 k).2.2.1 = some (tyX8 k) := by decide +kernel
abbrev cX8_init : ByteArray := prog_1_method_1_code
def yX8_init : MethodName := ⟨RX8, "<init>", "()V"⟩
abbrev cX8_program : ByteArray := prog_1_method_2_code
def yX8_program : MethodName := ⟨RX8, "program", "()I"⟩
abbrev cX8_block : ByteArray := prog_1_method_3_code
def yX8_block : MethodName := ⟨RX8, "block", "(III)I"⟩
abbrev cX8_map : ByteArray := prog_1_method_4_code
def yX8_map : MethodName := ⟨RX8, "map", "(II)I"⟩
abbrev cX8_tool : ByteArray := prog_1_method_5_code
def yX8_tool : MethodName := ⟨RX8, "tool", "(II)I"⟩
abbrev cX8_load : ByteArray := prog_1_method_6_code
def yX8_load : MethodName := ⟨RX8, "load", "(IZ)I"⟩
abbrev cX8_pallet : ByteArray := prog_1_method_7_code
def yX8_pallet : MethodName := ⟨RX8, "pallet", "(I)I"⟩
abbrev cX8_clamp : ByteArray := prog_1_method_8_code
def yX8_clamp : MethodName := ⟨RX8, "clamp", "(IIII)I"⟩
abbrev cX8_prove : ByteArray := prog_1_method_9_code
def yX8_prove : MethodName := ⟨RX8, "prove", "(II)I"⟩
abbrev cX8_takes : ByteArray := prog_1_method_10_code
def yX8_takes : MethodName := ⟨RX8, "takes", "(II)I"⟩
abbrev cX8_plan : ByteArray := prog_1_method_11_code
def yX8_plan : MethodName := ⟨RX8, "plan", "(II)I"⟩
abbrev cX8_night : ByteArray := prog_1_method_12_code
def yX8_night : MethodName := ⟨RX8, "night", "()I"⟩
abbrev cX8_foresees : ByteArray := prog_1_method_13_code
def yX8_foresees : MethodName := ⟨RX8, "foresees", "()I"⟩
abbrev cX8_lacks : ByteArray := prog_1_method_14_code
def yX8_lacks : MethodName := ⟨RX8, "lacks", "(I)I"⟩
abbrev cX8_idle : ByteArray := prog_1_method_15_code
def yX8_idle : MethodName := ⟨RX8, "idle", "(I)I"⟩
abbrev cX8_calibrate : ByteArray := prog_1_method_16_code
def yX8_calibrate : MethodName := ⟨RX8, "calibrate", "(II)I"⟩
abbrev cX8_drawing : ByteArray := prog_1_method_17_code
def yX8_drawing : MethodName := ⟨RX8, "drawing", "()I"⟩
abbrev cX8_feature : ByteArray := prog_1_method_18_code
def yX8_feature : MethodName := ⟨RX8, "feature", "(IIIII)I"⟩
abbrev cX8_allow : ByteArray := prog_1_method_19_code
def yX8_allow : MethodName := ⟨RX8, "allow", "(IIII)I"⟩
abbrev cX8_judge : ByteArray := prog_1_method_20_code
def yX8_judge : MethodName := ⟨RX8, "judge", "(III)I"⟩
abbrev cX8_correct : ByteArray := prog_1_method_21_code
def yX8_correct : MethodName := ⟨RX8, "correct", "(I)I"⟩
abbrev cX8_minute : ByteArray := prog_1_method_22_code
def yX8_minute : MethodName := ⟨RX8, "minute", "()I"⟩
abbrev cX8_warmth : ByteArray := prog_1_method_23_code
def yX8_warmth : MethodName := ⟨RX8, "warmth", "()I"⟩
abbrev cX8_ofTool : ByteArray := prog_1_method_24_code
def yX8_ofTool : MethodName := ⟨RX8, "ofTool", "(II)I"⟩
abbrev cX8_ofCell : ByteArray := prog_1_method_25_code
def yX8_ofCell : MethodName := ⟨RX8, "ofCell", "(IIII)I"⟩
abbrev cX8_ofPallet : ByteArray := prog_1_method_26_code
def yX8_ofPallet : MethodName := ⟨RX8, "ofPallet", "(II)I"⟩
abbrev cX8_ofPaper : ByteArray := prog_1_method_27_code
def yX8_ofPaper : MethodName := ⟨RX8, "ofPaper", "(II)I"⟩
abbrev cX8_judgeAnew : ByteArray := prog_1_method_28_code
def yX8_judgeAnew : MethodName := ⟨RX8, "judgeAnew", "(I)I"⟩
abbrev cX8_programAt : ByteArray := prog_1_method_29_code
def yX8_programAt : MethodName := ⟨RX8, "programAt", "(I)LToolCrib$Program;"⟩
abbrev cX8_toolAt : ByteArray := prog_1_method_30_code
def yX8_toolAt : MethodName := ⟨RX8, "toolAt", "(I)LToolCrib$Tool;"⟩
abbrev cX8_palletAt : ByteArray := prog_1_method_31_code
def yX8_palletAt : MethodName := ⟨RX8, "palletAt", "(I)LToolCrib$Pallet;"⟩
abbrev cX8_cellAt : ByteArray := prog_1_method_32_code
def yX8_cellAt : MethodName := ⟨RX8, "cellAt", "(II)I"⟩
abbrev cX8_gaugeAt : ByteArray := prog_1_method_33_code
def yX8_gaugeAt : MethodName := ⟨RX8, "gaugeAt", "(I)LToolCrib$Gauge;"⟩
abbrev cX8_drawingAt : ByteArray := prog_1_method_34_code
def yX8_drawingAt : MethodName := ⟨RX8, "drawingAt", "(I)LToolCrib$Drawing;"⟩
abbrev cX8_paperAt : ByteArray := prog_1_method_35_code
def yX8_paperAt : MethodName := ⟨RX8, "paperAt", "(I)LToolCrib$Paper;"⟩
abbrev cX8_isWithin : ByteArray := prog_1_method_36_code
def yX8_isWithin : MethodName := ⟨RX8, "isWithin", "(III)Z"⟩
abbrev cX8_isBlock : ByteArray := prog_1_method_37_code
def yX8_isBlock : MethodName := ⟨RX8, "isBlock", "(III)Z"⟩
abbrev cX8_placeInQueue : ByteArray := prog_1_method_38_code
def yX8_placeInQueue : MethodName := ⟨RX8, "placeInQueue", "(LToolCrib$Pallet;)I"⟩
abbrev cX8_countLoaded : ByteArray := prog_1_method_39_code
def yX8_countLoaded : MethodName := ⟨RX8, "countLoaded", "()I"⟩
abbrev cX8_countLeft : ByteArray := prog_1_method_40_code
def yX8_countLeft : MethodName := ⟨RX8, "countLeft", "(I)I"⟩
abbrev cX8_lowestToolFor : ByteArray := prog_1_method_41_code
def yX8_lowestToolFor : MethodName := ⟨RX8, "lowestToolFor", "(I)LToolCrib$Tool;"⟩
abbrev cX8_tell : ByteArray := prog_1_method_42_code
def yX8_tell : MethodName := ⟨RX8, "tell", "(II)V"⟩
abbrev cX8_tryWhole : ByteArray := prog_1_method_43_code
def yX8_tryWhole : MethodName := ⟨RX8, "tryWhole", "(II)V"⟩
abbrev cX8_isEnoughFor : ByteArray := prog_1_method_44_code
def yX8_isEnoughFor : MethodName := ⟨RX8, "isEnoughFor", "(LToolCrib$Pallet;)Z"⟩
abbrev cX8_isCutToEnd : ByteArray := prog_1_method_45_code
def yX8_isCutToEnd : MethodName := ⟨RX8, "isCutToEnd", "(LToolCrib$Pallet;)Z"⟩
abbrev cX8_cutBy : ByteArray := prog_1_method_46_code
def yX8_cutBy : MethodName := ⟨RX8, "cutBy", "(LToolCrib$Tool;LToolCrib$Pallet;)V"⟩
abbrev cX8_greatestPart : ByteArray := prog_1_method_47_code
def yX8_greatestPart : MethodName := ⟨RX8, "greatestPart", "()I"⟩
def RX9 : String := "ToolCribModel"
def TX9 : u_T := fun k => match k with
  | _ => ("", "", "", false)
def tyX9 : Nat → FieldType := fun k => match k with
  | _ => .int
theorem nmX9 : ∀ a, a < 0 → ∀ b, b < 0 → a ≠ b → (TX9 a).2.1 ≠ (TX9 b).2.1 := by decide +kernel
theorem tyX9_ok : ∀ k, k < 0 → parseFieldDescriptor (TX9 k).2.2.1 = some (tyX9 k) := by decide +kernel
def RJx145de : String := "java/io/Serializable"
def TJx145de : u_T := fun k => match k with
  | _ => ("", "", "", false)
def tyJx145de : Nat → FieldType := fun k => match k with
  | _ => .int
theorem nmJx145de : ∀ a, a < 0 → ∀ b, b < 0 → a ≠ b → (TJx145de a).2.1 ≠ (TJx145de b).2.1 := by decide +kernel
theorem tyJx145de_ok : ∀ k, k < 0 → parseFieldDescriptor (TJx145de k).2.2.1 = some (tyJx145de k) := by decide +kernel
def RJx8e188 : String := "java/lang/Cloneable"
def TJx8e188 : u_T := fun k => match k with
  | _ => ("", "", "", false)
def tyJx8e188 : Nat → FieldType := fun k => match k with
  | _ => .int
theorem nmJx8e188 : ∀ a, a < 0 → ∀ b, b < 0 → a ≠ b → (TJx8e188 a).2.1 ≠ (TJx8e188 b).2.1 := by decide +kernel
theorem tyJx8e188_ok : ∀ k, k < 0 → parseFieldDescriptor (TJx8e188 k).2.2.1 = some (tyJx8e188 k) := by decide +kernel
def RJxab1ab : String := "java/lang/Iterable"
def TJxab1ab : u_T := fun k => match k with
  | _ => ("", "", "", false)
def tyJxab1ab : Nat → FieldType := fun k => match k with
  | _ => .int
theorem nmJxab1ab : ∀ a, a < 0 → ∀ b, b < 0 → a ≠ b → (TJxab1ab a).2.1 ≠ (TJxab1ab b).2.1 := by decide +kernel
theorem tyJxab1ab_ok : ∀ k, k < 0 → parseFieldDescriptor (TJxab1ab k).2.2.1 = some (tyJxab1ab k) := by decide +kernel
def RJ9 : String := "java/lang/Math"
def TJ9 : u_T := fun k => match k with
  | _ => ("", "", "", false)
def tyJ9 : Nat → FieldType := fun k => match k with
  | _ => .int
theorem nmJ9 : ∀ a, a < 0 → ∀ b, b < 0 → a ≠ b → (TJ9 a).2.1 ≠ (TJ9 b).2.1 := by decide +kernel
theorem tyJ9_ok : ∀ k, k < 0 → parseFieldDescriptor (TJ9 k).2.2.1 = some (tyJ9 k) := by decide +kernel
abbrev cJ9_abs_0f7a4 : ByteArray := prog_19_method_59_code
def yJ9_abs_0f7a4 : MethodName := ⟨RJ9, "abs", "(I)I"⟩
abbrev cJ9_max_7cf53 : ByteArray := prog_19_method_65_code
def yJ9_max_7cf53 : MethodName := ⟨RJ9, "max", "(II)I"⟩
abbrev cJ9_min_7cf53 : ByteArray := prog_19_method_69_code
def yJ9_min_7cf53 : MethodName := ⟨RJ9, "min", "(II)I"⟩
def RJ0 : String := "java/lang/String"
def TJ0 : u_T := fun k => match k with
  | _ => ("", "", "", false)
def tyJ0 : Nat → FieldType := fun k => match k with
  | _ => .int
theorem nmJ0 : ∀ a, a < 0 → ∀ b, b < 0 → a ≠ b → (TJ0 a).2.1 ≠ (TJ0 b).2.1 := by decide +kernel
theorem tyJ0_ok : ∀ k, k < 0 → parseFieldDescriptor (TJ0 k).2.2.1 = some (tyJ0 k) := by decide +kernel
def RJ10 : String := "java/lang/System"
def TJ10 : u_T := fun k => match k with
  | _ => ("", "", "", false)
def tyJ10 : Nat → FieldType := fun k => match k with
  | _ => .int
theorem nmJ10 : ∀ a, a < 0 → ∀ b, b < 0 → a ≠ b → (TJ10 a).2.1 ≠ (TJ10 b).2.1 := by decide +kernel
theorem tyJ10_ok : ∀ k, k < 0 → parseFieldDescriptor (TJ10 k).2.2.1 = some (tyJ10 k) := by decide +kernel
def RJxa1e45 : String := "java/util/AbstractCollection"
def TJxa1e45 : u_T := fun k => match k with
  | _ => ("", "", "", false)
def tyJxa1e45 : Nat → FieldType := fun k => match k with
  | _ => .int
theorem nmJxa1e45 : ∀ a, a < 0 → ∀ b, b < 0 → a ≠ b → (TJxa1e45 a).2.1 ≠ (TJxa1e45 b).2.1 := by decide +kernel
theorem tyJxa1e45_ok : ∀ k, k < 0 → parseFieldDescriptor (TJxa1e45 k).2.2.1 = some (tyJxa1e45 k) := by decide +kernel
abbrev cJxa1e45_init_da8c8 : ByteArray := prog_24_method_1_code
def yJxa1e45_init_da8c8 : MethodName := ⟨RJxa1e45, "<init>", "()V"⟩
def RJxc12de : String := "java/util/AbstractList"
def TJxc12de : u_T := fun k => match k with
  | _ => ("", "", "", false)
def tyJxc12de : Nat → FieldType := fun k => match k with
  | _ => .int
theorem nmJxc12de : ∀ a, a < 0 → ∀ b, b < 0 → a ≠ b → (TJxc12de a).2.1 ≠ (TJxc12de b).2.1 := by decide +kernel
theorem tyJxc12de_ok : ∀ k, k < 0 → parseFieldDescriptor (TJxc12de k).2.2.1 = some (tyJxc12de k) := by decide +kernel
abbrev cJxc12de_init_da8c8 : ByteArray := prog_25_method_1_code
def yJxc12de_init_da8c8 : MethodName := ⟨RJxc12de, "<init>", "()V"⟩
def RJx4a65c : String := "java/util/ArrayList"
def TJx4a65c : u_T := fun k => match k with
  | 0 => ("java/util/AbstractList", "modCount", "I", false)
  | 1 => ("java/util/ArrayList", "elementData", "[Ljava/lang/Object;", false)
  | _ => ("java/util/ArrayList", "size", "I", false)
def tyJx4a65c : Nat → FieldType := fun k => match k with
  | 0 => .int
  | 1 => .array (.object "java/lang/Object")
  | _ => .int
theorem nmJx4a65c : ∀ a, a < 3 → ∀ b, b < 3 → a ≠ b → (TJx4a65c a).2.1 ≠ (TJx4a65c b).2.1 := by decide +kernel
theorem tyJx4a65c_ok : ∀ k, k < 3 → parseFieldDescriptor (TJx4a65c k).2.2.1 = some (tyJx4a65c k) := by decide +kernel
abbrev cJx4a65c_init_da8c8 : ByteArray := prog_26_method_2_code
def yJx4a65c_init_da8c8 : MethodName := ⟨RJx4a65c, "<init>", "()V"⟩
abbrev cJx4a65c_grow_92f84 : ByteArray := prog_26_method_6_code
def yJx4a65c_grow_92f84 : MethodName := ⟨RJx4a65c, "grow", "(I)[Ljava/lang/Object;"⟩
abbrev cJx4a65c_grow_d5877 : ByteArray := prog_26_method_7_code
def yJx4a65c_grow_d5877 : MethodName := ⟨RJx4a65c, "grow", "()[Ljava/lang/Object;"⟩
abbrev cJx4a65c_size_8abf5 : ByteArray := prog_26_method_8_code
def yJx4a65c_size_8abf5 : MethodName := ⟨RJx4a65c, "size", "()I"⟩
abbrev cJx4a65c_isEmpty_aae02 : ByteArray := prog_26_method_9_code
def yJx4a65c_isEmpty_aae02 : MethodName := ⟨RJx4a65c, "isEmpty", "()Z"⟩
abbrev cJx4a65c_elementData_915e3 : ByteArray := prog_26_method_18_code
def yJx4a65c_elementData_915e3 : MethodName := ⟨RJx4a65c, "elementData", "(I)Ljava/lang/Object;"⟩
abbrev cJx4a65c_get_915e3 : ByteArray := prog_26_method_20_code
def yJx4a65c_get_915e3 : MethodName := ⟨RJx4a65c, "get", "(I)Ljava/lang/Object;"⟩
abbrev cJx4a65c_add_72be8 : ByteArray := prog_26_method_24_code
def yJx4a65c_add_72be8 : MethodName := ⟨RJx4a65c, "add", "(Ljava/lang/Object;[Ljava/lang/Object;I)V"⟩
abbrev cJx4a65c_add_9ea2d : ByteArray := prog_26_method_25_code
def yJx4a65c_add_9ea2d : MethodName := ⟨RJx4a65c, "add", "(Ljava/lang/Object;)Z"⟩
abbrev cJx4a65c_remove_915e3 : ByteArray := prog_26_method_29_code
def yJx4a65c_remove_915e3 : MethodName := ⟨RJx4a65c, "remove", "(I)Ljava/lang/Object;"⟩
abbrev cJx4a65c_fastRemove_b59b0 : ByteArray := prog_26_method_39_code
def yJx4a65c_fastRemove_b59b0 : MethodName := ⟨RJx4a65c, "fastRemove", "([Ljava/lang/Object;I)V"⟩
abbrev cJx4a65c_clear_da8c8 : ByteArray := prog_26_method_40_code
def yJx4a65c_clear_da8c8 : MethodName := ⟨RJx4a65c, "clear", "()V"⟩
def RJ7 : String := "java/util/Arrays"
def TJ7 : u_T := fun k => match k with
  | _ => ("", "", "", false)
def tyJ7 : Nat → FieldType := fun k => match k with
  | _ => .int
theorem nmJ7 : ∀ a, a < 0 → ∀ b, b < 0 → a ≠ b → (TJ7 a).2.1 ≠ (TJ7 b).2.1 := by decide +kernel
theorem tyJ7_ok : ∀ k, k < 0 → parseFieldDescriptor (TJ7 k).2.2.1 = some (tyJ7 k) := by decide +kernel
abbrev cJ7_fill_53178 : ByteArray := prog_27_method_103_code
def yJ7_fill_53178 : MethodName := ⟨RJ7, "fill", "([II)V"⟩
abbrev cJ7_copyOf_1904c : ByteArray := prog_27_method_119_code
def yJ7_copyOf_1904c : MethodName := ⟨RJ7, "copyOf", "([Ljava/lang/Object;I)[Ljava/lang/Object;"⟩
abbrev cJ7_copyOf_6403c : ByteArray := prog_27_method_120_code
def yJ7_copyOf_6403c : MethodName := ⟨RJ7, "copyOf", "([Ljava/lang/Object;ILjava/lang/Class;)[Ljava/lang/Object;"⟩
def RJx5ef63 : String := "java/util/Collection"
def TJx5ef63 : u_T := fun k => match k with
  | _ => ("", "", "", false)
def tyJx5ef63 : Nat → FieldType := fun k => match k with
  | _ => .int
theorem nmJx5ef63 : ∀ a, a < 0 → ∀ b, b < 0 → a ≠ b → (TJx5ef63 a).2.1 ≠ (TJx5ef63 b).2.1 := by decide +kernel
theorem tyJx5ef63_ok : ∀ k, k < 0 → parseFieldDescriptor (TJx5ef63 k).2.2.1 = some (tyJx5ef63 k) := by decide +kernel
def RJxbd725 : String := "java/util/List"
def TJxbd725 : u_T := fun k => match k with
  | _ => ("", "", "", false)
def tyJxbd725 : Nat → FieldType := fun k => match k with
  | _ => .int
theorem nmJxbd725 : ∀ a, a < 0 → ∀ b, b < 0 → a ≠ b → (TJxbd725 a).2.1 ≠ (TJxbd725 b).2.1 := by decide +kernel
theorem tyJxbd725_ok : ∀ k, k < 0 → parseFieldDescriptor (TJxbd725 k).2.2.1 = some (tyJxbd725 k) := by decide +kernel
def RJ15 : String := "java/util/Objects"
def TJ15 : u_T := fun k => match k with
  | _ => ("", "", "", false)
def tyJ15 : Nat → FieldType := fun k => match k with
  | _ => .int
theorem nmJ15 : ∀ a, a < 0 → ∀ b, b < 0 → a ≠ b → (TJ15 a).2.1 ≠ (TJ15 b).2.1 := by decide +kernel
theorem tyJ15_ok : ∀ k, k < 0 → parseFieldDescriptor (TJ15 k).2.2.1 = some (tyJ15 k) := by decide +kernel
abbrev cJ15_checkIndex_7cf53 : ByteArray := prog_30_method_17_code
def yJ15_checkIndex_7cf53 : MethodName := ⟨RJ15, "checkIndex", "(II)I"⟩
def RJxf0a74 : String := "java/util/RandomAccess"
def TJxf0a74 : u_T := fun k => match k with
  | _ => ("", "", "", false)
def tyJxf0a74 : Nat → FieldType := fun k => match k with
  | _ => .int
theorem nmJxf0a74 : ∀ a, a < 0 → ∀ b, b < 0 → a ≠ b → (TJxf0a74 a).2.1 ≠ (TJxf0a74 b).2.1 := by decide +kernel
theorem tyJxf0a74_ok : ∀ k, k < 0 → parseFieldDescriptor (TJxf0a74 k).2.2.1 = some (tyJxf0a74 k) := by decide +kernel
def RJxa66e6 : String := "java/util/SequencedCollection"
def TJxa66e6 : u_T := fun k => match k with
  | _ => ("", "", "", false)
def tyJxa66e6 : Nat → FieldType := fun k => match k with
  | _ => .int
theorem nmJxa66e6 : ∀ a, a < 0 → ∀ b, b < 0 → a ≠ b → (TJxa66e6 a).2.1 ≠ (TJxa66e6 b).2.1 := by decide +kernel
theorem tyJxa66e6_ok : ∀ k, k < 0 → parseFieldDescriptor (TJxa66e6 k).2.2.1 = some (tyJxa66e6 k) := by decide +kernel
def RJ8 : String := "jdk/internal/util/ArraysSupport"
def TJ8 : u_T := fun k => match k with
  | _ => ("", "", "", false)
def tyJ8 : Nat → FieldType := fun k => match k with
  | _ => .int
theorem nmJ8 : ∀ a, a < 0 → ∀ b, b < 0 → a ≠ b → (TJ8 a).2.1 ≠ (TJ8 b).2.1 := by decide +kernel
theorem tyJ8_ok : ∀ k, k < 0 → parseFieldDescriptor (TJ8 k).2.2.1 = some (tyJ8 k) := by decide +kernel
abbrev cJ8_newLength_cabcc : ByteArray := prog_33_method_27_code
def yJ8_newLength_cabcc : MethodName := ⟨RJ8, "newLength", "(III)I"⟩
abbrev cJ8_hugeLength_7cf53 : ByteArray := prog_33_method_28_code
def yJ8_hugeLength_7cf53 : MethodName := ⟨RJ8, "hugeLength", "(II)I"⟩
def RJ3 : String := "jdk/internal/util/Preconditions"
def TJ3 : u_T := fun k => match k with
  | _ => ("", "", "", false)
def tyJ3 : Nat → FieldType := fun k => match k with
  | _ => .int
theorem nmJ3 : ∀ a, a < 0 → ∀ b, b < 0 → a ≠ b → (TJ3 a).2.1 ≠ (TJ3 b).2.1 := by decide +kernel
theorem tyJ3_ok : ∀ k, k < 0 → parseFieldDescriptor (TJ3 k).2.2.1 = some (tyJ3 k) := by decide +kernel
abbrev cJ3_checkIndex_8e157 : ByteArray := prog_34_method_11_code
def yJ3_checkIndex_8e157 : MethodName := ⟨RJ3, "checkIndex", "(IILjava/util/function/BiFunction;)I"⟩
def RL : String := "ToolCribLaw"
abbrev cL_from : ByteArray := method_2_code
def yL_from : MethodName := ⟨RL, "from", "([III)I"⟩
abbrev cL_toolFor : ByteArray := method_3_code
def yL_toolFor : MethodName := ⟨RL, "toolFor", "([II)I"⟩
abbrev cL_step : ByteArray := method_4_code
def yL_step : MethodName := ⟨RL, "step", "([J[I[I[IIZ)I"⟩
abbrev cL_move : ByteArray := method_5_code
def yL_move : MethodName := ⟨RL, "move", "([J[I[I[IIIIZ)I"⟩
abbrev cL_block : ByteArray := method_6_code
def yL_block : MethodName := ⟨RL, "block", "([J[I[I[I[IIZ)I"⟩
abbrev cL_run : ByteArray := method_7_code
def yL_run : MethodName := ⟨RL, "run", "([J[I[I[I[IIIZ)I"⟩
abbrev cL_copied : ByteArray := method_8_code
def yL_copied : MethodName := ⟨RL, "copied", "([J)[J"⟩
abbrev cL_kept : ByteArray := method_9_code
def yL_kept : MethodName := ⟨RL, "kept", "([I)[I"⟩
abbrev cL_night : ByteArray := method_10_code
def yL_night : MethodName := ⟨RL, "night", "([J[J[I[I[I[I[I)I"⟩
abbrev cL_foreseen : ByteArray := method_11_code
def yL_foreseen : MethodName := ⟨RL, "foreseen", "([J[J[I[I[I[I[I)I"⟩
abbrev cL_lacks : ByteArray := method_12_code
def yL_lacks : MethodName := ⟨RL, "lacks", "([J[J[I[I[I[I[II)I"⟩
abbrev cL_part : ByteArray := method_13_code
def yL_part : MethodName := ⟨RL, "part", "(JI)I"⟩
abbrev cL_size : ByteArray := method_14_code
def yL_size : MethodName := ⟨RL, "size", "(J)I"⟩
abbrev cL_plain : ByteArray := method_15_code
def yL_plain : MethodName := ⟨RL, "plain", "(I)I"⟩
abbrev cL_cause : ByteArray := method_16_code
def yL_cause : MethodName := ⟨RL, "cause", "(J)I"⟩
abbrev cL_isJudged : ByteArray := method_17_code
def yL_isJudged : MethodName := ⟨RL, "isJudged", "(LToolCrib;[J[I[I[II)Z"⟩
abbrev cL_corrected : ByteArray := method_18_code
def yL_corrected : MethodName := ⟨RL, "corrected", "([II)I"⟩
abbrev cL_isSame : ByteArray := method_19_code
def yL_isSame : MethodName := ⟨RL, "isSame", "(LToolCrib;[J[J[I[I[I[I[II)Z"⟩
abbrev cL_isBlock : ByteArray := method_20_code
def yL_isBlock : MethodName := ⟨RL, "isBlock", "(LToolCrib;[IIII)Z"⟩
abbrev cL_isProgram : ByteArray := method_21_code
def yL_isProgram : MethodName := ⟨RL, "isProgram", "(LToolCrib;[III)Z"⟩
abbrev cL_isTold : ByteArray := method_22_code
def yL_isTold : MethodName := ⟨RL, "isTold", "(LToolCrib;[I[III)Z"⟩
abbrev cL_isClamp : ByteArray := method_23_code
def yL_isClamp : MethodName := ⟨RL, "isClamp", "(LToolCrib;[J[III)Z"⟩
abbrev cL_isPlanned : ByteArray := method_24_code
def yL_isPlanned : MethodName := ⟨RL, "isPlanned", "(LToolCrib;[J[I[I[I[I[III)Z"⟩
abbrev cL_isBegun : ByteArray := method_25_code
def yL_isBegun : MethodName := ⟨RL, "isBegun", "(LToolCrib;[I[J[J[I[I[I[I)Z"⟩
abbrev cL_holds : ByteArray := method_26_code
def yL_holds : MethodName := ⟨RL, "holds", "([I)Z"⟩
abbrev cL_isHeld : ByteArray := method_27_code
def yL_isHeld : MethodName := ⟨RL, "isHeld", "([I)Z"⟩
abbrev cL_law : ByteArray := code
def yL_law : MethodName := ⟨RL, "law", "([I)Z"⟩
abbrev vwCl : List vw_C := [(RJx4a65c, TJx4a65c, 3), (RX0, TX0, 6), (RX1, TX1, 2), (RX2, TX2, 10), (RX3, TX3, 7), (RX4, TX4, 3), (RX5, TX5, 8), (RX6, TX6, 5), (RX7, TX7, 11), (RX8, TX8, 13)]
