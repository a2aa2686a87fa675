/-! NAMES, printed by wip/whole/names.py: classes, fields, methods, the one list of words lw_big (the good ones of lw_tbl) and a row for each of them -/
def RX0 : String := "FormulaShapes$Box"
def TX0 : u_T := fun k => match k with
  | 0 => ("FormulaShapes$Box", "width", "I", true)
  | 1 => ("FormulaShapes$Box", "height", "I", true)
  | 2 => ("FormulaShapes$Box", "depth", "I", true)
  | 3 => ("FormulaShapes$Box", "places", "[I", true)
  | 4 => ("FormulaShapes$Box", "ruleWidth", "I", true)
  | _ => ("FormulaShapes$Box", "ruleHeight", "I", true)
def tyX0 : Nat → FieldType := fun k => match k with
  | 0 => .int
  | 1 => .int
  | 2 => .int
  | 3 => .array (.int)
  | 4 => .int
  | _ => .int
theorem nmX0 : ∀ a, a < 6 → ∀ b, b < 6 → a ≠ b → (TX0 a).2.1 ≠ (TX0 b).2.1 := by decide +kernel
theorem tyX0_ok : ∀ k, k < 6 → parseFieldDescriptor (TX0 k).2.2.1 = some (tyX0 k) := by decide +kernel
def RX1 : String := "FormulaShapes$Family"
def TX1 : u_T := fun k => match k with
  | 0 => ("FormulaShapes$Family", "members", "[I", true)
  | 1 => ("FormulaShapes$Family", "count", "I", false)
  | 2 => ("FormulaShapes$Family", "upper", "I", false)
  | 3 => ("FormulaShapes$Family", "middle", "I", false)
  | 4 => ("FormulaShapes$Family", "lower", "I", false)
  | _ => ("FormulaShapes$Family", "repeated", "I", false)
def tyX1 : Nat → FieldType := fun k => match k with
  | 0 => .array (.int)
  | 1 => .int
  | 2 => .int
  | 3 => .int
  | 4 => .int
  | _ => .int
theorem nmX1 : ∀ a, a < 6 → ∀ b, b < 6 → a ≠ b → (TX1 a).2.1 ≠ (TX1 b).2.1 := by decide +kernel
theorem tyX1_ok : ∀ k, k < 6 → parseFieldDescriptor (TX1 k).2.2.1 = some (tyX1 k) := by decide +kernel
def RX2 : String := "FormulaShapes$Pile"
def TX2 : u_T := fun k => match k with
  | 0 => ("FormulaShapes$Pile", "places", "[I", true)
  | 1 => ("FormulaShapes$Pile", "filled", "I", false)
  | 2 => ("FormulaShapes$Pile", "top", "I", false)
  | _ => ("FormulaShapes$Pile", "width", "I", false)
def tyX2 : Nat → FieldType := fun k => match k with
  | 0 => .array (.int)
  | 1 => .int
  | 2 => .int
  | _ => .int
theorem nmX2 : ∀ a, a < 4 → ∀ b, b < 4 → a ≠ b → (TX2 a).2.1 ≠ (TX2 b).2.1 := by decide +kernel
theorem tyX2_ok : ∀ k, k < 4 → parseFieldDescriptor (TX2 k).2.2.1 = some (tyX2 k) := by decide +kernel
def RX3 : String := "FormulaShapes"
def TX3 : u_T := fun k => match k with
  | 0 => ("FormulaShapes", "made", "[LFormulaShapes$Box;", true)
  | 1 => ("FormulaShapes", "count", "I", false)
  | 2 => ("FormulaShapes", "families", "[LFormulaShapes$Family;", true)
  | 3 => ("FormulaShapes", "parameters", "[I", true)
  | 4 => ("FormulaShapes", "space", "I", false)
  | _ => ("FormulaShapes", "shortBy", "I", false)
def tyX3 : Nat → FieldType := fun k => match k with
  | 0 => .array (.object "FormulaShapes$Box")
  | 1 => .int
  | 2 => .array (.object "FormulaShapes$Family")
  | 3 => .array (.int)
  | 4 => .int
  | _ => .int
theorem nmX3 : ∀ a, a < 6 → ∀ b, b < 6 → a ≠ b → (TX3 a).2.1 ≠ (TX3 b).2.1 := by decide +kernel
theorem tyX3_ok : ∀ k, k < 6 → parseFieldDescriptor (TX3 k).2.2.1 = some (tyX3 k) := by decide +kernel
def RX4 : String := "FormulaShapesModel"
def TX4 : u_T := fun k => match k with
  | 0 => ("FormulaShapesModel", "thrown", "I", false)
  | 1 => ("FormulaShapesModel", "parameters", "[I", true)
  | 2 => ("FormulaShapesModel", "space", "I", false)
  | 3 => ("FormulaShapesModel", "less", "I", false)
  | 4 => ("FormulaShapesModel", "boxes", "I", false)
  | 5 => ("FormulaShapesModel", "widths", "[I", true)
  | 6 => ("FormulaShapesModel", "heights", "[I", true)
  | 7 => ("FormulaShapesModel", "depths", "[I", true)
  | 8 => ("FormulaShapesModel", "begins", "[I", true)
  | 9 => ("FormulaShapesModel", "many", "[I", true)
  | 10 => ("FormulaShapesModel", "ruleWidth", "[I", true)
  | 11 => ("FormulaShapesModel", "ruleHeight", "[I", true)
  | 12 => ("FormulaShapesModel", "parts", "I", false)
  | 13 => ("FormulaShapesModel", "partBox", "[I", true)
  | 14 => ("FormulaShapesModel", "partX", "[I", true)
  | 15 => ("FormulaShapesModel", "partY", "[I", true)
  | 16 => ("FormulaShapesModel", "signs", "[I", true)
  | 17 => ("FormulaShapesModel", "signBox", "[I", true)
  | 18 => ("FormulaShapesModel", "hasPieces", "[Z", true)
  | 19 => ("FormulaShapesModel", "piece", "[I", true)
  | _ => ("FormulaShapesModel", "size", "I", false)
def tyX4 : Nat → FieldType := fun k => match k with
  | 0 => .int
  | 1 => .array (.int)
  | 2 => .int
  | 3 => .int
  | 4 => .int
  | 5 => .array (.int)
  | 6 => .array (.int)
  | 7 => .array (.int)
  | 8 => .array (.int)
  | 9 => .array (.int)
  | 10 => .array (.int)
  | 11 => .array (.int)
  | 12 => .int
  | 13 => .array (.int)
  | 14 => .array (.int)
  | 15 => .array (.int)
  | 16 => .array (.int)
  | 17 => .array (.int)
  | 18 => .array (.boolean)
  | 19 => .array (.int)
  | _ => .int
theorem nmX4 : ∀ a, a < 21 → ∀ b, b < 21 → a ≠ b → (TX4 a).2.1 ≠ (TX4 b).2.1 := by decide +kernel
theorem tyX4_ok : ∀ k, k < 21 → parseFieldDescriptor (TX4 k).2.2.1 = some (tyX4 k) := by decide +kernel
def RL : String := "FormulaShapesLaw"
abbrev gx_cl : List vw_C := [(RX0, TX0, 6), (RX1, TX1, 6), (RX2, TX2, 4), (RX3, TX3, 6), (RX4, TX4, 21)]
abbrev cX3_init : ByteArray := prog_1_method_1_code
def yX3_init : MethodName := ⟨RX3, "<init>", "()V"⟩
abbrev cX3_parameter : ByteArray := prog_1_method_2_code
def yX3_parameter : MethodName := ⟨RX3, "parameter", "(III)I"⟩
abbrev cX3_set : ByteArray := prog_1_method_3_code
def yX3_set : MethodName := ⟨RX3, "set", "(II)I"⟩
abbrev cX3_box : ByteArray := prog_1_method_4_code
def yX3_box : MethodName := ⟨RX3, "box", "(III)I"⟩
abbrev cX3_sign : ByteArray := prog_1_method_5_code
def yX3_sign : MethodName := ⟨RX3, "sign", "(II)I"⟩
abbrev cX3_pieces : ByteArray := prog_1_method_6_code
def yX3_pieces : MethodName := ⟨RX3, "pieces", "(IIIII)V"⟩
abbrev cX3_signOf : ByteArray := prog_1_method_7_code
def yX3_signOf : MethodName := ⟨RX3, "signOf", "(II)I"⟩
abbrev cX3_fraction : ByteArray := prog_1_method_8_code
def yX3_fraction : MethodName := ⟨RX3, "fraction", "(IIII)I"⟩
abbrev cX3_root : ByteArray := prog_1_method_9_code
def yX3_root : MethodName := ⟨RX3, "root", "(III)I"⟩
abbrev cX3_signs : ByteArray := prog_1_method_10_code
def yX3_signs : MethodName := ⟨RX3, "signs", "(IZIZII)I"⟩
abbrev cX3_limits : ByteArray := prog_1_method_11_code
def yX3_limits : MethodName := ⟨RX3, "limits", "(IIII)I"⟩
abbrev cX3_brackets : ByteArray := prog_1_method_12_code
def yX3_brackets : MethodName := ⟨RX3, "brackets", "(IIII)I"⟩
abbrev cX3_row : ByteArray := prog_1_method_13_code
def yX3_row : MethodName := ⟨RX3, "row", "(III)I"⟩
abbrev cX3_centre : ByteArray := prog_1_method_14_code
def yX3_centre : MethodName := ⟨RX3, "centre", "(II)I"⟩
abbrev cX3_told : ByteArray := prog_1_method_15_code
def yX3_told : MethodName := ⟨RX3, "told", "(II)I"⟩
abbrev cX3_part : ByteArray := prog_1_method_16_code
def yX3_part : MethodName := ⟨RX3, "part", "(III)I"⟩
abbrev cX3_boxes : ByteArray := prog_1_method_17_code
def yX3_boxes : MethodName := ⟨RX3, "boxes", "()I"⟩
abbrev cX3_needBox : ByteArray := prog_1_method_18_code
def yX3_needBox : MethodName := ⟨RX3, "needBox", "(I)V"⟩
abbrev cX3_needBoxOrNone : ByteArray := prog_1_method_19_code
def yX3_needBoxOrNone : MethodName := ⟨RX3, "needBoxOrNone", "(I)V"⟩
abbrev cX3_needFamily : ByteArray := prog_1_method_20_code
def yX3_needFamily : MethodName := ⟨RX3, "needFamily", "(I)V"⟩
abbrev cX3_needStyle : ByteArray := prog_1_method_21_code
def yX3_needStyle : MethodName := ⟨RX3, "needStyle", "(I)V"⟩
abbrev cX3_needWithin : ByteArray := prog_1_method_22_code
def yX3_needWithin : MethodName := ⟨RX3, "needWithin", "(III)V"⟩
abbrev cX3_needOneOf : ByteArray := prog_1_method_23_code
def yX3_needOneOf : MethodName := ⟨RX3, "needOneOf", "(II)V"⟩
abbrev cX3_needSign : ByteArray := prog_1_method_24_code
def yX3_needSign : MethodName := ⟨RX3, "needSign", "(LFormulaShapes$Family;)V"⟩
abbrev cX3_needRoom : ByteArray := prog_1_method_25_code
def yX3_needRoom : MethodName := ⟨RX3, "needRoom", "(I)V"⟩
abbrev cX3_keep : ByteArray := prog_1_method_26_code
def yX3_keep : MethodName := ⟨RX3, "keep", "(LFormulaShapes$Box;)I"⟩
abbrev cX3_widthOf : ByteArray := prog_1_method_27_code
def yX3_widthOf : MethodName := ⟨RX3, "widthOf", "(I)I"⟩
abbrev cX3_heightOf : ByteArray := prog_1_method_28_code
def yX3_heightOf : MethodName := ⟨RX3, "heightOf", "(I)I"⟩
abbrev cX3_depthOf : ByteArray := prog_1_method_29_code
def yX3_depthOf : MethodName := ⟨RX3, "depthOf", "(I)I"⟩
abbrev cX3_extentOf : ByteArray := prog_1_method_30_code
def yX3_extentOf : MethodName := ⟨RX3, "extentOf", "(I)I"⟩
abbrev cX3_valueOf : ByteArray := prog_1_method_31_code
def yX3_valueOf : MethodName := ⟨RX3, "valueOf", "(II)I"⟩
abbrev cX3_half : ByteArray := prog_1_method_32_code
def yX3_half : MethodName := ⟨RX3, "half", "(I)I"⟩
abbrev cX3_onAxis : ByteArray := prog_1_method_33_code
def yX3_onAxis : MethodName := ⟨RX3, "onAxis", "(II)I"⟩
abbrev cX3_enclosing : ByteArray := prog_1_method_34_code
def yX3_enclosing : MethodName := ⟨RX3, "enclosing", "(I[I)LFormulaShapes$Box;"⟩
abbrev cX3_readySign : ByteArray := prog_1_method_35_code
def yX3_readySign : MethodName := ⟨RX3, "readySign", "(LFormulaShapes$Family;I)I"⟩
abbrev cX3_newBoxesFor : ByteArray := prog_1_method_36_code
def yX3_newBoxesFor : MethodName := ⟨RX3, "newBoxesFor", "(I)I"⟩
abbrev cX3_keptSign : ByteArray := prog_1_method_37_code
def yX3_keptSign : MethodName := ⟨RX3, "keptSign", "(LFormulaShapes$Family;II)I"⟩
abbrev cX3_putTogether : ByteArray := prog_1_method_38_code
def yX3_putTogether : MethodName := ⟨RX3, "putTogether", "(LFormulaShapes$Family;I)LFormulaShapes$Box;"⟩
abbrev cX3_oneIfThere : ByteArray := prog_1_method_39_code
def yX3_oneIfThere : MethodName := ⟨RX3, "oneIfThere", "(I)I"⟩
abbrev cX3_pileUp : ByteArray := prog_1_method_40_code
def yX3_pileUp : MethodName := ⟨RX3, "pileUp", "(LFormulaShapes$Pile;II)V"⟩
abbrev cX3_fractionBare : ByteArray := prog_1_method_41_code
def yX3_fractionBare : MethodName := ⟨RX3, "fractionBare", "(III)LFormulaShapes$Box;"⟩
abbrev cX3_fractionWithLine : ByteArray := prog_1_method_42_code
def yX3_fractionWithLine : MethodName := ⟨RX3, "fractionWithLine", "(IIII)LFormulaShapes$Box;"⟩
abbrev cX3_rootClearance : ByteArray := prog_1_method_43_code
def yX3_rootClearance : MethodName := ⟨RX3, "rootClearance", "(I)I"⟩
abbrev cX3_rootShape : ByteArray := prog_1_method_44_code
def yX3_rootShape : MethodName := ⟨RX3, "rootShape", "(IIIZ)LFormulaShapes$Box;"⟩
abbrev cX3_upShift : ByteArray := prog_1_method_45_code
def yX3_upShift : MethodName := ⟨RX3, "upShift", "(IZII)I"⟩
abbrev cX3_downAlone : ByteArray := prog_1_method_46_code
def yX3_downAlone : MethodName := ⟨RX3, "downAlone", "(III)I"⟩
abbrev cX3_fourFifths : ByteArray := prog_1_method_47_code
def yX3_fourFifths : MethodName := ⟨RX3, "fourFifths", "(I)I"⟩
abbrev cX3_signsOnBothSides : ByteArray := prog_1_method_48_code
def yX3_signsOnBothSides : MethodName := ⟨RX3, "signsOnBothSides", "(IIIIII)LFormulaShapes$Box;"⟩
abbrev cX3_limitsShape : ByteArray := prog_1_method_49_code
def yX3_limitsShape : MethodName := ⟨RX3, "limitsShape", "(IIII)LFormulaShapes$Box;"⟩
abbrev cX3_bracketsLeast : ByteArray := prog_1_method_50_code
def yX3_bracketsLeast : MethodName := ⟨RX3, "bracketsLeast", "(II)I"⟩
abbrev cX4_init : ByteArray := prog_6_method_1_code
def yX4_init : MethodName := ⟨RX4, "<init>", "()V"⟩
abbrev cX4_thrown : ByteArray := prog_6_method_2_code
def yX4_thrown : MethodName := ⟨RX4, "thrown", "()I"⟩
abbrev cX4_in : ByteArray := prog_6_method_3_code
def yX4_in : MethodName := ⟨RX4, "in", "(III)Z"⟩
abbrev cX4_half : ByteArray := prog_6_method_4_code
def yX4_half : MethodName := ⟨RX4, "half", "(I)I"⟩
abbrev cX4_abs : ByteArray := prog_6_method_5_code
def yX4_abs : MethodName := ⟨RX4, "abs", "(I)I"⟩
abbrev cX4_greater : ByteArray := prog_6_method_6_code
def yX4_greater : MethodName := ⟨RX4, "greater", "(II)I"⟩
abbrev cX4_isBox : ByteArray := prog_6_method_7_code
def yX4_isBox : MethodName := ⟨RX4, "isBox", "(I)Z"⟩
abbrev cX4_isBoxOrNone : ByteArray := prog_6_method_8_code
def yX4_isBoxOrNone : MethodName := ⟨RX4, "isBoxOrNone", "(I)Z"⟩
abbrev cX4_isFamily : ByteArray := prog_6_method_9_code
def yX4_isFamily : MethodName := ⟨RX4, "isFamily", "(I)Z"⟩
abbrev cX4_isStyle : ByteArray := prog_6_method_10_code
def yX4_isStyle : MethodName := ⟨RX4, "isStyle", "(I)Z"⟩
abbrev cX4_p : ByteArray := prog_6_method_11_code
def yX4_p : MethodName := ⟨RX4, "p", "(I)I"⟩
abbrev cX4_use : ByteArray := prog_6_method_12_code
def yX4_use : MethodName := ⟨RX4, "use", "(I)V"⟩
abbrev cX4_parameter : ByteArray := prog_6_method_13_code
def yX4_parameter : MethodName := ⟨RX4, "parameter", "(III)I"⟩
abbrev cX4_set : ByteArray := prog_6_method_14_code
def yX4_set : MethodName := ⟨RX4, "set", "(II)I"⟩
abbrev cX4_make : ByteArray := prog_6_method_15_code
def yX4_make : MethodName := ⟨RX4, "make", "(III)I"⟩
abbrev cX4_lay : ByteArray := prog_6_method_16_code
def yX4_lay : MethodName := ⟨RX4, "lay", "(III)V"⟩
abbrev cX4_box : ByteArray := prog_6_method_17_code
def yX4_box : MethodName := ⟨RX4, "box", "(III)I"⟩
abbrev cX4_sign : ByteArray := prog_6_method_18_code
def yX4_sign : MethodName := ⟨RX4, "sign", "(II)I"⟩
abbrev cX4_pieces : ByteArray := prog_6_method_19_code
def yX4_pieces : MethodName := ⟨RX4, "pieces", "(IIIII)V"⟩
abbrev cX4_tall : ByteArray := prog_6_method_20_code
def yX4_tall : MethodName := ⟨RX4, "tall", "(I)I"⟩
abbrev cX4_plan : ByteArray := prog_6_method_21_code
def yX4_plan : MethodName := ⟨RX4, "plan", "(II)I"⟩
abbrev cX4_repeats : ByteArray := prog_6_method_22_code
def yX4_repeats : MethodName := ⟨RX4, "repeats", "(II)I"⟩
abbrev cX4_pile : ByteArray := prog_6_method_23_code
def yX4_pile : MethodName := ⟨RX4, "pile", "(I)V"⟩
abbrev cX4_signBy : ByteArray := prog_6_method_24_code
def yX4_signBy : MethodName := ⟨RX4, "signBy", "(II)I"⟩
abbrev cX4_signOf : ByteArray := prog_6_method_25_code
def yX4_signOf : MethodName := ⟨RX4, "signOf", "(II)I"⟩
abbrev cX4_fraction : ByteArray := prog_6_method_26_code
def yX4_fraction : MethodName := ⟨RX4, "fraction", "(IIII)I"⟩
abbrev cX4_root : ByteArray := prog_6_method_27_code
def yX4_root : MethodName := ⟨RX4, "root", "(III)I"⟩
abbrev cX4_signs : ByteArray := prog_6_method_28_code
def yX4_signs : MethodName := ⟨RX4, "signs", "(IZIZII)I"⟩
abbrev cX4_limits : ByteArray := prog_6_method_29_code
def yX4_limits : MethodName := ⟨RX4, "limits", "(IIII)I"⟩
abbrev cX4_reach : ByteArray := prog_6_method_30_code
def yX4_reach : MethodName := ⟨RX4, "reach", "()V"⟩
abbrev cX4_brackets : ByteArray := prog_6_method_31_code
def yX4_brackets : MethodName := ⟨RX4, "brackets", "(IIII)I"⟩
abbrev cX4_row : ByteArray := prog_6_method_32_code
def yX4_row : MethodName := ⟨RX4, "row", "(III)I"⟩
abbrev cX4_centre : ByteArray := prog_6_method_33_code
def yX4_centre : MethodName := ⟨RX4, "centre", "(II)I"⟩
abbrev cX4_told : ByteArray := prog_6_method_34_code
def yX4_told : MethodName := ⟨RX4, "told", "(II)I"⟩
abbrev cX4_part : ByteArray := prog_6_method_35_code
def yX4_part : MethodName := ⟨RX4, "part", "(III)I"⟩
abbrev cX4_boxes : ByteArray := prog_6_method_36_code
def yX4_boxes : MethodName := ⟨RX4, "boxes", "()I"⟩
abbrev cX0_init_0 : ByteArray := prog_2_method_1_code
def yX0_init_0 : MethodName := ⟨RX0, "<init>", "(III[I)V"⟩
abbrev cX0_init_1 : ByteArray := prog_2_method_2_code
def yX0_init_1 : MethodName := ⟨RX0, "<init>", "(III[III)V"⟩
abbrev cX1_init : ByteArray := prog_3_method_1_code
def yX1_init : MethodName := ⟨RX1, "<init>", "()V"⟩
abbrev cX2_init : ByteArray := prog_4_method_1_code
def yX2_init : MethodName := ⟨RX2, "<init>", "(I)V"⟩
abbrev cX2_put : ByteArray := prog_4_method_2_code
def yX2_put : MethodName := ⟨RX2, "put", "(ILFormulaShapes$Box;)V"⟩
abbrev cX2_asBox : ByteArray := prog_4_method_3_code
def yX2_asBox : MethodName := ⟨RX2, "asBox", "()LFormulaShapes$Box;"⟩
abbrev cL_parameter : ByteArray := method_3_code
def yL_parameter : MethodName := ⟨RL, "parameter", "(LFormulaShapes;III[J)I"⟩
abbrev cL_set : ByteArray := method_4_code
def yL_set : MethodName := ⟨RL, "set", "(LFormulaShapes;II[J)I"⟩
abbrev cL_box : ByteArray := method_5_code
def yL_box : MethodName := ⟨RL, "box", "(LFormulaShapes;III[J)I"⟩
abbrev cL_sign : ByteArray := method_6_code
def yL_sign : MethodName := ⟨RL, "sign", "(LFormulaShapes;II[J)I"⟩
abbrev cL_pieces : ByteArray := method_7_code
def yL_pieces : MethodName := ⟨RL, "pieces", "(LFormulaShapes;IIIII)I"⟩
abbrev cL_signOf : ByteArray := method_8_code
def yL_signOf : MethodName := ⟨RL, "signOf", "(LFormulaShapes;II[J)I"⟩
abbrev cL_fraction : ByteArray := method_9_code
def yL_fraction : MethodName := ⟨RL, "fraction", "(LFormulaShapes;IIII[J)I"⟩
abbrev cL_root : ByteArray := method_10_code
def yL_root : MethodName := ⟨RL, "root", "(LFormulaShapes;III[J)I"⟩
abbrev cL_signs : ByteArray := method_11_code
def yL_signs : MethodName := ⟨RL, "signs", "(LFormulaShapes;IZIZII[J)I"⟩
abbrev cL_limits : ByteArray := method_12_code
def yL_limits : MethodName := ⟨RL, "limits", "(LFormulaShapes;IIII[J)I"⟩
abbrev cL_brackets : ByteArray := method_13_code
def yL_brackets : MethodName := ⟨RL, "brackets", "(LFormulaShapes;IIII[J)I"⟩
abbrev cL_row : ByteArray := method_14_code
def yL_row : MethodName := ⟨RL, "row", "(LFormulaShapes;III[J)I"⟩
abbrev cL_centre : ByteArray := method_15_code
def yL_centre : MethodName := ⟨RL, "centre", "(LFormulaShapes;II[J)I"⟩
abbrev cL_told : ByteArray := method_16_code
def yL_told : MethodName := ⟨RL, "told", "(LFormulaShapes;II[J)I"⟩
abbrev cL_part : ByteArray := method_17_code
def yL_part : MethodName := ⟨RL, "part", "(LFormulaShapes;III[J)I"⟩
abbrev cL_law : ByteArray := code
def lw_big : List Cond := lw_tbl.filter goodWord
theorem lw_bg {w : Cond} (h : w ∈ tables_1) (g : goodWord w = true) : w ∈ lw_big := List.mem_filter.mpr ⟨List.mem_append_right _ h, g⟩
theorem lw_bs {w : Cond} (h : w ∈ k2_sels lw_privs) (g : goodWord w = true) : w ∈ lw_big := List.mem_filter.mpr ⟨List.mem_append_left _ h, g⟩
theorem wd0 : (Jvm.Cond.initialized "FormulaShapesLaw") ∈ lw_big := lw_bg (List.mem_of_getElem? (i := 0) (by decide +kernel)) (by decide +kernel)
theorem wd1 : (Jvm.Cond.initialized "FormulaShapes") ∈ lw_big := lw_bg (List.mem_of_getElem? (i := 1) (by decide +kernel)) (by decide +kernel)
theorem wd2 : (Jvm.Cond.initialized "FormulaShapes$Family") ∈ lw_big := lw_bg (List.mem_of_getElem? (i := 2) (by decide +kernel)) (by decide +kernel)
theorem wd3 : (Jvm.Cond.initialized "FormulaShapesModel") ∈ lw_big := lw_bg (List.mem_of_getElem? (i := 3) (by decide +kernel)) (by decide +kernel)
theorem wd4 : (Jvm.Cond.initialized "java/lang/Throwable") ∈ lw_big := lw_bg (List.mem_of_getElem? (i := 4) (by decide +kernel)) (by decide +kernel)
theorem wd5 : (Jvm.Cond.initialized "java/lang/Exception") ∈ lw_big := lw_bg (List.mem_of_getElem? (i := 5) (by decide +kernel)) (by decide +kernel)
theorem wd6 : (Jvm.Cond.initialized "java/lang/RuntimeException") ∈ lw_big := lw_bg (List.mem_of_getElem? (i := 6) (by decide +kernel)) (by decide +kernel)
theorem wd7 : (Jvm.Cond.initialized "java/lang/IndexOutOfBoundsException") ∈ lw_big := lw_bg (List.mem_of_getElem? (i := 7) (by decide +kernel)) (by decide +kernel)
theorem wd8 : (Jvm.Cond.initialized "java/lang/IllegalArgumentException") ∈ lw_big := lw_bg (List.mem_of_getElem? (i := 8) (by decide +kernel)) (by decide +kernel)
theorem wd9 : (Jvm.Cond.initialized "java/lang/UnsupportedOperationException") ∈ lw_big := lw_bg (List.mem_of_getElem? (i := 9) (by decide +kernel)) (by decide +kernel)
theorem wd10 : (Jvm.Cond.initialized "FormulaShapes$Box") ∈ lw_big := lw_bg (List.mem_of_getElem? (i := 10) (by decide +kernel)) (by decide +kernel)
theorem wd11 : (Jvm.Cond.initialized "java/lang/IllegalStateException") ∈ lw_big := lw_bg (List.mem_of_getElem? (i := 11) (by decide +kernel)) (by decide +kernel)
theorem wd12 : (Jvm.Cond.initialized "FormulaShapes$Pile") ∈ lw_big := lw_bg (List.mem_of_getElem? (i := 12) (by decide +kernel)) (by decide +kernel)
theorem wd13 : (Jvm.Cond.initialized "java/lang/Math") ∈ lw_big := lw_bg (List.mem_of_getElem? (i := 13) (by decide +kernel)) (by decide +kernel)
theorem wd14 : (Jvm.Cond.classLink "FormulaShapesLaw" (8 : Nat) "FormulaShapes") ∈ lw_big := lw_bg (List.mem_of_getElem? (i := 14) (by decide +kernel)) (by decide +kernel)
theorem wd15 : (Jvm.Cond.instantiable "FormulaShapes" (6 : Nat)) ∈ lw_big := lw_bg (List.mem_of_getElem? (i := 15) (by decide +kernel)) (by decide +kernel)
theorem wd16 : (Jvm.Cond.methodLink "FormulaShapesLaw" (67 : Nat) ({ cls := "FormulaShapes", name := "<init>", desc := "()V" } : Jvm.MethodName)) ∈ lw_big := lw_bg (List.mem_of_getElem? (i := 16) (by decide +kernel)) (by decide +kernel)
theorem wd17 : (Jvm.Cond.instanceMethod ({ cls := "FormulaShapes", name := "<init>", desc := "()V" } : Jvm.MethodName)) ∈ lw_big := lw_bg (List.mem_of_getElem? (i := 17) (by decide +kernel)) (by decide +kernel)
theorem wd18 : (Jvm.Cond.code ({ cls := "FormulaShapes", name := "<init>", desc := "()V" } : Jvm.MethodName) prog_1_method_1_code (2 : Nat) (Option.none : Option Jvm.ClassFile.FieldType)) ∈ lw_big := lw_bg (List.mem_of_getElem? (i := 18) (by decide +kernel)) (by decide +kernel)
theorem wd19 : (Jvm.Cond.methodLink "FormulaShapes" (1 : Nat) ({ cls := "java/lang/Object", name := "<init>", desc := "()V" } : Jvm.MethodName)) ∈ lw_big := lw_bg (List.mem_of_getElem? (i := 19) (by decide +kernel)) (by decide +kernel)
theorem wd20 : (Jvm.Cond.instanceMethod ({ cls := "java/lang/Object", name := "<init>", desc := "()V" } : Jvm.MethodName)) ∈ lw_big := lw_bg (List.mem_of_getElem? (i := 20) (by decide +kernel)) (by decide +kernel)
theorem wd21 : (Jvm.Cond.code ({ cls := "java/lang/Object", name := "<init>", desc := "()V" } : Jvm.MethodName) object_method_1_code (1 : Nat) (Option.none : Option Jvm.ClassFile.FieldType)) ∈ lw_big := lw_bg (List.mem_of_getElem? (i := 21) (by decide +kernel)) (by decide +kernel)
theorem wd22 : (Jvm.Cond.classLink "FormulaShapes" (9 : Nat) "FormulaShapes$Box") ∈ lw_big := lw_bg (List.mem_of_getElem? (i := 22) (by decide +kernel)) (by decide +kernel)
theorem wd23 : (Jvm.Cond.arrayOver (Jvm.ClassFile.FieldType.object "FormulaShapes$Box")) ∈ tables_1 := List.mem_of_getElem? (i := 23) (by decide +kernel)
theorem wd24 : (Jvm.Cond.classLink "FormulaShapes" (15 : Nat) "FormulaShapes$Family") ∈ lw_big := lw_bg (List.mem_of_getElem? (i := 24) (by decide +kernel)) (by decide +kernel)
theorem wd25 : (Jvm.Cond.arrayOver (Jvm.ClassFile.FieldType.object "FormulaShapes$Family")) ∈ tables_1 := List.mem_of_getElem? (i := 25) (by decide +kernel)
theorem wd26 : (Jvm.Cond.instantiable "FormulaShapes$Family" (6 : Nat)) ∈ lw_big := lw_bg (List.mem_of_getElem? (i := 26) (by decide +kernel)) (by decide +kernel)
theorem wd27 : (Jvm.Cond.methodLink "FormulaShapes" (21 : Nat) ({ cls := "FormulaShapes$Family", name := "<init>", desc := "()V" } : Jvm.MethodName)) ∈ lw_big := lw_bg (List.mem_of_getElem? (i := 27) (by decide +kernel)) (by decide +kernel)
theorem wd28 : (Jvm.Cond.instanceMethod ({ cls := "FormulaShapes$Family", name := "<init>", desc := "()V" } : Jvm.MethodName)) ∈ lw_big := lw_bg (List.mem_of_getElem? (i := 28) (by decide +kernel)) (by decide +kernel)
theorem wd29 : (Jvm.Cond.code ({ cls := "FormulaShapes$Family", name := "<init>", desc := "()V" } : Jvm.MethodName) prog_3_method_1_code (1 : Nat) (Option.none : Option Jvm.ClassFile.FieldType)) ∈ lw_big := lw_bg (List.mem_of_getElem? (i := 29) (by decide +kernel)) (by decide +kernel)
theorem wd30 : (Jvm.Cond.methodLink "FormulaShapes$Family" (3 : Nat) ({ cls := "java/lang/Object", name := "<init>", desc := "()V" } : Jvm.MethodName)) ∈ lw_big := lw_bg (List.mem_of_getElem? (i := 30) (by decide +kernel)) (by decide +kernel)
theorem wd31 : (Jvm.Cond.fieldLink "FormulaShapes$Family" (9 : Nat) "FormulaShapes$Family" "members" "[I") ∈ lw_big := lw_bg (List.mem_of_getElem? (i := 31) (by decide +kernel)) (by decide +kernel)
theorem wd32 : (Jvm.Cond.fieldLink "FormulaShapes" (78 : Nat) "FormulaShapes$Family" "members" "[I") ∈ lw_big := lw_bg (List.mem_of_getElem? (i := 32) (by decide +kernel)) (by decide +kernel)
theorem wd33 : (Jvm.Cond.fieldLink "FormulaShapes" (70 : Nat) "FormulaShapes$Family" "count" "I") ∈ lw_big := lw_bg (List.mem_of_getElem? (i := 33) (by decide +kernel)) (by decide +kernel)
theorem wd34 : (Jvm.Cond.fieldLink "FormulaShapes$Family" (15 : Nat) "FormulaShapes$Family" "upper" "I") ∈ lw_big := lw_bg (List.mem_of_getElem? (i := 34) (by decide +kernel)) (by decide +kernel)
theorem wd35 : (Jvm.Cond.fieldLink "FormulaShapes" (93 : Nat) "FormulaShapes$Family" "upper" "I") ∈ lw_big := lw_bg (List.mem_of_getElem? (i := 35) (by decide +kernel)) (by decide +kernel)
theorem wd36 : (Jvm.Cond.fieldLink "FormulaShapes$Family" (19 : Nat) "FormulaShapes$Family" "middle" "I") ∈ lw_big := lw_bg (List.mem_of_getElem? (i := 36) (by decide +kernel)) (by decide +kernel)
theorem wd37 : (Jvm.Cond.fieldLink "FormulaShapes" (96 : Nat) "FormulaShapes$Family" "middle" "I") ∈ lw_big := lw_bg (List.mem_of_getElem? (i := 37) (by decide +kernel)) (by decide +kernel)
theorem wd38 : (Jvm.Cond.fieldLink "FormulaShapes$Family" (22 : Nat) "FormulaShapes$Family" "lower" "I") ∈ lw_big := lw_bg (List.mem_of_getElem? (i := 38) (by decide +kernel)) (by decide +kernel)
theorem wd39 : (Jvm.Cond.fieldLink "FormulaShapes" (99 : Nat) "FormulaShapes$Family" "lower" "I") ∈ lw_big := lw_bg (List.mem_of_getElem? (i := 39) (by decide +kernel)) (by decide +kernel)
theorem wd40 : (Jvm.Cond.fieldLink "FormulaShapes$Family" (25 : Nat) "FormulaShapes$Family" "repeated" "I") ∈ lw_big := lw_bg (List.mem_of_getElem? (i := 40) (by decide +kernel)) (by decide +kernel)
theorem wd41 : (Jvm.Cond.fieldLink "FormulaShapes" (102 : Nat) "FormulaShapes$Family" "repeated" "I") ∈ lw_big := lw_bg (List.mem_of_getElem? (i := 41) (by decide +kernel)) (by decide +kernel)
theorem wd42 : (Jvm.Cond.laysFinal "FormulaShapes$Family" "FormulaShapes$Family" "members" "[I") ∈ lw_big := lw_bg (List.mem_of_getElem? (i := 42) (by decide +kernel)) (by decide +kernel)
theorem wd43 : (Jvm.Cond.soleField "FormulaShapes$Family" "members") ∈ lw_big := lw_bg (List.mem_of_getElem? (i := 43) (by decide +kernel)) (by decide +kernel)
theorem wd44 : (Jvm.Cond.lays "FormulaShapes$Family" "FormulaShapes$Family" "count" "I") ∈ lw_big := lw_bg (List.mem_of_getElem? (i := 44) (by decide +kernel)) (by decide +kernel)
theorem wd45 : (Jvm.Cond.soleField "FormulaShapes$Family" "count") ∈ lw_big := lw_bg (List.mem_of_getElem? (i := 45) (by decide +kernel)) (by decide +kernel)
theorem wd46 : (Jvm.Cond.lays "FormulaShapes$Family" "FormulaShapes$Family" "upper" "I") ∈ lw_big := lw_bg (List.mem_of_getElem? (i := 46) (by decide +kernel)) (by decide +kernel)
theorem wd47 : (Jvm.Cond.soleField "FormulaShapes$Family" "upper") ∈ lw_big := lw_bg (List.mem_of_getElem? (i := 47) (by decide +kernel)) (by decide +kernel)
theorem wd48 : (Jvm.Cond.lays "FormulaShapes$Family" "FormulaShapes$Family" "middle" "I") ∈ lw_big := lw_bg (List.mem_of_getElem? (i := 48) (by decide +kernel)) (by decide +kernel)
theorem wd49 : (Jvm.Cond.soleField "FormulaShapes$Family" "middle") ∈ lw_big := lw_bg (List.mem_of_getElem? (i := 49) (by decide +kernel)) (by decide +kernel)
theorem wd50 : (Jvm.Cond.lays "FormulaShapes$Family" "FormulaShapes$Family" "lower" "I") ∈ lw_big := lw_bg (List.mem_of_getElem? (i := 50) (by decide +kernel)) (by decide +kernel)
theorem wd51 : (Jvm.Cond.soleField "FormulaShapes$Family" "lower") ∈ lw_big := lw_bg (List.mem_of_getElem? (i := 51) (by decide +kernel)) (by decide +kernel)
theorem wd52 : (Jvm.Cond.lays "FormulaShapes$Family" "FormulaShapes$Family" "repeated" "I") ∈ lw_big := lw_bg (List.mem_of_getElem? (i := 52) (by decide +kernel)) (by decide +kernel)
theorem wd53 : (Jvm.Cond.soleField "FormulaShapes$Family" "repeated") ∈ lw_big := lw_bg (List.mem_of_getElem? (i := 53) (by decide +kernel)) (by decide +kernel)
theorem wd54 : (Jvm.Cond.superclass "FormulaShapes$Family" "java/lang/Object") ∈ lw_big := lw_bg (List.mem_of_getElem? (i := 54) (by decide +kernel)) (by decide +kernel)
theorem wd55 : (Jvm.Cond.arrayClass Jvm.ClassFile.FieldType.int) ∈ lw_big := lw_bg (List.mem_of_getElem? (i := 55) (by decide +kernel)) (by decide +kernel)
theorem wd56 : (Jvm.Cond.fieldLink "FormulaShapes" (11 : Nat) "FormulaShapes" "made" "[LFormulaShapes$Box;") ∈ lw_big := lw_bg (List.mem_of_getElem? (i := 56) (by decide +kernel)) (by decide +kernel)
theorem wd57 : (Jvm.Cond.fieldLink "FormulaShapes" (201 : Nat) "FormulaShapes" "count" "I") ∈ lw_big := lw_bg (List.mem_of_getElem? (i := 57) (by decide +kernel)) (by decide +kernel)
theorem wd58 : (Jvm.Cond.fieldLink "FormulaShapes" (17 : Nat) "FormulaShapes" "families" "[LFormulaShapes$Family;") ∈ lw_big := lw_bg (List.mem_of_getElem? (i := 58) (by decide +kernel)) (by decide +kernel)
theorem wd59 : (Jvm.Cond.fieldLink "FormulaShapes" (22 : Nat) "FormulaShapes" "parameters" "[I") ∈ lw_big := lw_bg (List.mem_of_getElem? (i := 59) (by decide +kernel)) (by decide +kernel)
theorem wd60 : (Jvm.Cond.fieldLink "FormulaShapes" (43 : Nat) "FormulaShapes" "space" "I") ∈ lw_big := lw_bg (List.mem_of_getElem? (i := 60) (by decide +kernel)) (by decide +kernel)
theorem wd61 : (Jvm.Cond.fieldLink "FormulaShapes" (47 : Nat) "FormulaShapes" "shortBy" "I") ∈ lw_big := lw_bg (List.mem_of_getElem? (i := 61) (by decide +kernel)) (by decide +kernel)
theorem wd62 : (Jvm.Cond.laysFinal "FormulaShapes" "FormulaShapes" "made" "[LFormulaShapes$Box;") ∈ lw_big := lw_bg (List.mem_of_getElem? (i := 62) (by decide +kernel)) (by decide +kernel)
theorem wd63 : (Jvm.Cond.soleField "FormulaShapes" "made") ∈ lw_big := lw_bg (List.mem_of_getElem? (i := 63) (by decide +kernel)) (by decide +kernel)
theorem wd64 : (Jvm.Cond.lays "FormulaShapes" "FormulaShapes" "count" "I") ∈ lw_big := lw_bg (List.mem_of_getElem? (i := 64) (by decide +kernel)) (by decide +kernel)
theorem wd65 : (Jvm.Cond.soleField "FormulaShapes" "count") ∈ lw_big := lw_bg (List.mem_of_getElem? (i := 65) (by decide +kernel)) (by decide +kernel)
theorem wd66 : (Jvm.Cond.laysFinal "FormulaShapes" "FormulaShapes" "families" "[LFormulaShapes$Family;") ∈ lw_big := lw_bg (List.mem_of_getElem? (i := 66) (by decide +kernel)) (by decide +kernel)
theorem wd67 : (Jvm.Cond.soleField "FormulaShapes" "families") ∈ lw_big := lw_bg (List.mem_of_getElem? (i := 67) (by decide +kernel)) (by decide +kernel)
theorem wd68 : (Jvm.Cond.laysFinal "FormulaShapes" "FormulaShapes" "parameters" "[I") ∈ lw_big := lw_bg (List.mem_of_getElem? (i := 68) (by decide +kernel)) (by decide +kernel)
theorem wd69 : (Jvm.Cond.soleField "FormulaShapes" "parameters") ∈ lw_big := lw_bg (List.mem_of_getElem? (i := 69) (by decide +kernel)) (by decide +kernel)
theorem wd70 : (Jvm.Cond.lays "FormulaShapes" "FormulaShapes" "space" "I") ∈ lw_big := lw_bg (List.mem_of_getElem? (i := 70) (by decide +kernel)) (by decide +kernel)
theorem wd71 : (Jvm.Cond.soleField "FormulaShapes" "space") ∈ lw_big := lw_bg (List.mem_of_getElem? (i := 71) (by decide +kernel)) (by decide +kernel)
theorem wd72 : (Jvm.Cond.lays "FormulaShapes" "FormulaShapes" "shortBy" "I") ∈ lw_big := lw_bg (List.mem_of_getElem? (i := 72) (by decide +kernel)) (by decide +kernel)
theorem wd73 : (Jvm.Cond.soleField "FormulaShapes" "shortBy") ∈ lw_big := lw_bg (List.mem_of_getElem? (i := 73) (by decide +kernel)) (by decide +kernel)
theorem wd74 : (Jvm.Cond.superclass "FormulaShapes" "java/lang/Object") ∈ lw_big := lw_bg (List.mem_of_getElem? (i := 74) (by decide +kernel)) (by decide +kernel)
theorem wd75 : (Jvm.Cond.methodLink "FormulaShapesLaw" (127 : Nat) ({ cls := "FormulaShapes", name := "boxes", desc := "()I" } : Jvm.MethodName)) ∈ lw_big := lw_bg (List.mem_of_getElem? (i := 75) (by decide +kernel)) (by decide +kernel)
theorem wd76 : (Jvm.Cond.instanceMethod ({ cls := "FormulaShapes", name := "boxes", desc := "()I" } : Jvm.MethodName)) ∈ lw_big := lw_bg (List.mem_of_getElem? (i := 76) (by decide +kernel)) (by decide +kernel)
theorem wd77 : (Jvm.Cond.selects "FormulaShapes" ({ cls := "FormulaShapes", name := "boxes", desc := "()I" } : Jvm.MethodName) ({ cls := "FormulaShapes", name := "boxes", desc := "()I" } : Jvm.MethodName)) ∈ lw_big := lw_bg (List.mem_of_getElem? (i := 77) (by decide +kernel)) (by decide +kernel)
theorem wd78 : (Jvm.Cond.code ({ cls := "FormulaShapes", name := "boxes", desc := "()I" } : Jvm.MethodName) prog_1_method_17_code (1 : Nat) (Option.some Jvm.ClassFile.FieldType.int)) ∈ lw_big := lw_bg (List.mem_of_getElem? (i := 78) (by decide +kernel)) (by decide +kernel)
theorem wd79 : (Jvm.Cond.methodLink "FormulaShapesLaw" (71 : Nat) ({ cls := "FormulaShapesLaw", name := "parameter", desc := "(LFormulaShapes;III[J)I" } : Jvm.MethodName)) ∈ lw_big := lw_bg (List.mem_of_getElem? (i := 79) (by decide +kernel)) (by decide +kernel)
theorem wd80 : (Jvm.Cond.static ({ cls := "FormulaShapesLaw", name := "parameter", desc := "(LFormulaShapes;III[J)I" } : Jvm.MethodName)) ∈ lw_big := lw_bg (List.mem_of_getElem? (i := 80) (by decide +kernel)) (by decide +kernel)
theorem wd81 : (Jvm.Cond.codeWith ({ cls := "FormulaShapesLaw", name := "parameter", desc := "(LFormulaShapes;III[J)I" } : Jvm.MethodName) method_3_code (6 : Nat) (Option.some Jvm.ClassFile.FieldType.int) [((0 : Nat), (12 : Nat), (15 : Nat), (13 : Nat)), ((0 : Nat), (12 : Nat), (19 : Nat), (15 : Nat))]) ∈ lw_big := lw_bg (List.mem_of_getElem? (i := 81) (by decide +kernel)) (by decide +kernel)
theorem wd82 : (Jvm.Cond.classLink "FormulaShapesLaw" (13 : Nat) "java/lang/IndexOutOfBoundsException") ∈ lw_big := lw_bg (List.mem_of_getElem? (i := 82) (by decide +kernel)) (by decide +kernel)
theorem wd83 : (Jvm.Cond.classLink "FormulaShapesLaw" (15 : Nat) "java/lang/IllegalArgumentException") ∈ lw_big := lw_bg (List.mem_of_getElem? (i := 83) (by decide +kernel)) (by decide +kernel)
theorem wd84 : (Jvm.Cond.methodLink "FormulaShapesLaw" (7 : Nat) ({ cls := "FormulaShapes", name := "parameter", desc := "(III)I" } : Jvm.MethodName)) ∈ lw_big := lw_bg (List.mem_of_getElem? (i := 84) (by decide +kernel)) (by decide +kernel)
theorem wd85 : (Jvm.Cond.instanceMethod ({ cls := "FormulaShapes", name := "parameter", desc := "(III)I" } : Jvm.MethodName)) ∈ lw_big := lw_bg (List.mem_of_getElem? (i := 85) (by decide +kernel)) (by decide +kernel)
theorem wd86 : (Jvm.Cond.selects "FormulaShapes" ({ cls := "FormulaShapes", name := "parameter", desc := "(III)I" } : Jvm.MethodName) ({ cls := "FormulaShapes", name := "parameter", desc := "(III)I" } : Jvm.MethodName)) ∈ lw_big := lw_bg (List.mem_of_getElem? (i := 86) (by decide +kernel)) (by decide +kernel)
theorem wd87 : (Jvm.Cond.code ({ cls := "FormulaShapes", name := "parameter", desc := "(III)I" } : Jvm.MethodName) prog_1_method_2_code (6 : Nat) (Option.some Jvm.ClassFile.FieldType.int)) ∈ lw_big := lw_bg (List.mem_of_getElem? (i := 87) (by decide +kernel)) (by decide +kernel)
theorem wd88 : (Jvm.Cond.classLink "FormulaShapes" (26 : Nat) "java/lang/IndexOutOfBoundsException") ∈ lw_big := lw_bg (List.mem_of_getElem? (i := 88) (by decide +kernel)) (by decide +kernel)
theorem wd89 : (Jvm.Cond.instantiable "java/lang/IndexOutOfBoundsException" (6 : Nat)) ∈ lw_big := lw_bg (List.mem_of_getElem? (i := 89) (by decide +kernel)) (by decide +kernel)
theorem wd90 : (Jvm.Cond.castable "java/lang/IndexOutOfBoundsException" "java/lang/IndexOutOfBoundsException") ∈ lw_big := lw_bg (List.mem_of_getElem? (i := 90) (by decide +kernel)) (by decide +kernel)
theorem wd91 : (Jvm.Cond.declares ({ cls := "java/lang/RuntimeException", name := "<init>", desc := "()V" } : Jvm.MethodName)) ∈ lw_big := lw_bg (List.mem_of_getElem? (i := 91) (by decide +kernel)) (by decide +kernel)
theorem wd92 : (Jvm.Cond.declares ({ cls := "java/lang/RuntimeException", name := "<init>", desc := "(Ljava/lang/String;)V" } : Jvm.MethodName)) ∈ lw_big := lw_bg (List.mem_of_getElem? (i := 92) (by decide +kernel)) (by decide +kernel)
theorem wd93 : (Jvm.Cond.declares ({ cls := "java/lang/Exception", name := "<init>", desc := "()V" } : Jvm.MethodName)) ∈ lw_big := lw_bg (List.mem_of_getElem? (i := 93) (by decide +kernel)) (by decide +kernel)
theorem wd94 : (Jvm.Cond.declares ({ cls := "java/lang/Exception", name := "<init>", desc := "(Ljava/lang/String;)V" } : Jvm.MethodName)) ∈ lw_big := lw_bg (List.mem_of_getElem? (i := 94) (by decide +kernel)) (by decide +kernel)
theorem wd95 : (Jvm.Cond.declares ({ cls := "java/lang/Throwable", name := "<init>", desc := "()V" } : Jvm.MethodName)) ∈ lw_big := lw_bg (List.mem_of_getElem? (i := 95) (by decide +kernel)) (by decide +kernel)
theorem wd96 : (Jvm.Cond.declares ({ cls := "java/lang/Throwable", name := "<init>", desc := "(Ljava/lang/String;)V" } : Jvm.MethodName)) ∈ lw_big := lw_bg (List.mem_of_getElem? (i := 96) (by decide +kernel)) (by decide +kernel)
theorem wd97 : (Jvm.Cond.selects "java/lang/IndexOutOfBoundsException" ({ cls := "java/lang/Throwable", name := "fillInStackTrace", desc := "(I)Ljava/lang/Throwable;" } : Jvm.MethodName) ({ cls := "java/lang/Throwable", name := "fillInStackTrace", desc := "(I)Ljava/lang/Throwable;" } : Jvm.MethodName)) ∈ lw_big := lw_bg (List.mem_of_getElem? (i := 97) (by decide +kernel)) (by decide +kernel)
theorem wd98 : (Jvm.Cond.selects "java/lang/IndexOutOfBoundsException" ({ cls := "java/lang/Throwable", name := "fillInStackTrace", desc := "()Ljava/lang/Throwable;" } : Jvm.MethodName) ({ cls := "java/lang/Throwable", name := "fillInStackTrace", desc := "()Ljava/lang/Throwable;" } : Jvm.MethodName)) ∈ lw_big := lw_bg (List.mem_of_getElem? (i := 98) (by decide +kernel)) (by decide +kernel)
theorem wd99 : (Jvm.Cond.lays "java/lang/IndexOutOfBoundsException" "java/lang/Throwable" "cause" "Ljava/lang/Throwable;") ∈ lw_big := lw_bg (List.mem_of_getElem? (i := 99) (by decide +kernel)) (by decide +kernel)
theorem wd100 : (Jvm.Cond.lays "java/lang/Throwable" "java/lang/Throwable" "cause" "Ljava/lang/Throwable;") ∈ lw_big := lw_bg (List.mem_of_getElem? (i := 100) (by decide +kernel)) (by decide +kernel)
theorem wd101 : (Jvm.Cond.lays "java/lang/IndexOutOfBoundsException" "java/lang/Throwable" "stackTrace" "[Ljava/lang/StackTraceElement;") ∈ lw_big := lw_bg (List.mem_of_getElem? (i := 101) (by decide +kernel)) (by decide +kernel)
theorem wd102 : (Jvm.Cond.lays "java/lang/Throwable" "java/lang/Throwable" "stackTrace" "[Ljava/lang/StackTraceElement;") ∈ lw_big := lw_bg (List.mem_of_getElem? (i := 102) (by decide +kernel)) (by decide +kernel)
theorem wd103 : (Jvm.Cond.lays "java/lang/IndexOutOfBoundsException" "java/lang/Throwable" "suppressedExceptions" "Ljava/util/List;") ∈ lw_big := lw_bg (List.mem_of_getElem? (i := 103) (by decide +kernel)) (by decide +kernel)
theorem wd104 : (Jvm.Cond.lays "java/lang/Throwable" "java/lang/Throwable" "suppressedExceptions" "Ljava/util/List;") ∈ lw_big := lw_bg (List.mem_of_getElem? (i := 104) (by decide +kernel)) (by decide +kernel)
theorem wd105 : (Jvm.Cond.lays "java/lang/IndexOutOfBoundsException" "java/lang/Throwable" "detailMessage" "Ljava/lang/String;") ∈ lw_big := lw_bg (List.mem_of_getElem? (i := 105) (by decide +kernel)) (by decide +kernel)
theorem wd106 : (Jvm.Cond.lays "java/lang/Throwable" "java/lang/Throwable" "detailMessage" "Ljava/lang/String;") ∈ lw_big := lw_bg (List.mem_of_getElem? (i := 106) (by decide +kernel)) (by decide +kernel)
theorem wd107 : (Jvm.Cond.lays "java/lang/IndexOutOfBoundsException" "java/lang/Throwable" "backtrace" "Ljava/lang/Object;") ∈ lw_big := lw_bg (List.mem_of_getElem? (i := 107) (by decide +kernel)) (by decide +kernel)
theorem wd108 : (Jvm.Cond.lays "java/lang/Throwable" "java/lang/Throwable" "backtrace" "Ljava/lang/Object;") ∈ lw_big := lw_bg (List.mem_of_getElem? (i := 108) (by decide +kernel)) (by decide +kernel)
theorem wd109 : (Jvm.Cond.fieldLink "java/lang/Throwable" (198 : Nat) "java/lang/Throwable" "backtrace" "Ljava/lang/Object;") ∈ lw_big := lw_bg (List.mem_of_getElem? (i := 109) (by decide +kernel)) (by decide +kernel)
theorem wd110 : (Jvm.Cond.superclass "java/lang/Throwable" "java/lang/Object") ∈ lw_big := lw_bg (List.mem_of_getElem? (i := 110) (by decide +kernel)) (by decide +kernel)
theorem wd111 : (Jvm.Cond.instanceMethod ({ cls := "java/lang/Throwable", name := "<init>", desc := "()V" } : Jvm.MethodName)) ∈ lw_big := lw_bg (List.mem_of_getElem? (i := 111) (by decide +kernel)) (by decide +kernel)
theorem wd112 : (Jvm.Cond.code ({ cls := "java/lang/Throwable", name := "<init>", desc := "()V" } : Jvm.MethodName) prog_14_method_1_code (1 : Nat) (Option.none : Option Jvm.ClassFile.FieldType)) ∈ lw_big := lw_bg (List.mem_of_getElem? (i := 112) (by decide +kernel)) (by decide +kernel)
theorem wd113 : (Jvm.Cond.methodLink "java/lang/Throwable" (1 : Nat) ({ cls := "java/lang/Object", name := "<init>", desc := "()V" } : Jvm.MethodName)) ∈ lw_big := lw_bg (List.mem_of_getElem? (i := 113) (by decide +kernel)) (by decide +kernel)
theorem wd114 : (Jvm.Cond.fieldLink "java/lang/Throwable" (13 : Nat) "java/lang/Throwable" "UNASSIGNED_STACK" "[Ljava/lang/StackTraceElement;") ∈ lw_big := lw_bg (List.mem_of_getElem? (i := 114) (by decide +kernel)) (by decide +kernel)
theorem wd115 : (Jvm.Cond.laysStatic "java/lang/Throwable" "UNASSIGNED_STACK" "[Ljava/lang/StackTraceElement;") ∈ tables_1 := List.mem_of_getElem? (i := 115) (by decide +kernel)
theorem wd116 : (Jvm.Cond.fieldLink "java/lang/Throwable" (20 : Nat) "java/lang/Throwable" "SUPPRESSED_SENTINEL" "Ljava/util/List;") ∈ lw_big := lw_bg (List.mem_of_getElem? (i := 116) (by decide +kernel)) (by decide +kernel)
theorem wd117 : (Jvm.Cond.laysStatic "java/lang/Throwable" "SUPPRESSED_SENTINEL" "Ljava/util/List;") ∈ tables_1 := List.mem_of_getElem? (i := 117) (by decide +kernel)
theorem wd118 : (Jvm.Cond.methodLink "java/lang/Throwable" (27 : Nat) ({ cls := "java/lang/Throwable", name := "fillInStackTrace", desc := "()Ljava/lang/Throwable;" } : Jvm.MethodName)) ∈ lw_big := lw_bg (List.mem_of_getElem? (i := 118) (by decide +kernel)) (by decide +kernel)
theorem wd119 : (Jvm.Cond.instanceMethod ({ cls := "java/lang/Throwable", name := "fillInStackTrace", desc := "()Ljava/lang/Throwable;" } : Jvm.MethodName)) ∈ lw_big := lw_bg (List.mem_of_getElem? (i := 119) (by decide +kernel)) (by decide +kernel)
theorem wd120 : (Jvm.Cond.sameMethod "java/lang/Throwable" "java/lang/Throwable" "fillInStackTrace" "()Ljava/lang/Throwable;") ∈ lw_big := lw_bg (List.mem_of_getElem? (i := 120) (by decide +kernel)) (by decide +kernel)
theorem wd121 : (Jvm.Cond.selects "java/lang/IllegalArgumentException" ({ cls := "java/lang/Throwable", name := "fillInStackTrace", desc := "()Ljava/lang/Throwable;" } : Jvm.MethodName) ({ cls := "java/lang/Throwable", name := "fillInStackTrace", desc := "()Ljava/lang/Throwable;" } : Jvm.MethodName)) ∈ lw_big := lw_bg (List.mem_of_getElem? (i := 121) (by decide +kernel)) (by decide +kernel)
theorem wd122 : (Jvm.Cond.selects "java/lang/IllegalStateException" ({ cls := "java/lang/Throwable", name := "fillInStackTrace", desc := "()Ljava/lang/Throwable;" } : Jvm.MethodName) ({ cls := "java/lang/Throwable", name := "fillInStackTrace", desc := "()Ljava/lang/Throwable;" } : Jvm.MethodName)) ∈ lw_big := lw_bg (List.mem_of_getElem? (i := 122) (by decide +kernel)) (by decide +kernel)
theorem wd123 : (Jvm.Cond.selects "java/lang/UnsupportedOperationException" ({ cls := "java/lang/Throwable", name := "fillInStackTrace", desc := "()Ljava/lang/Throwable;" } : Jvm.MethodName) ({ cls := "java/lang/Throwable", name := "fillInStackTrace", desc := "()Ljava/lang/Throwable;" } : Jvm.MethodName)) ∈ lw_big := lw_bg (List.mem_of_getElem? (i := 123) (by decide +kernel)) (by decide +kernel)
theorem wd124 : (Jvm.Cond.codeSync ({ cls := "java/lang/Throwable", name := "fillInStackTrace", desc := "()Ljava/lang/Throwable;" } : Jvm.MethodName) prog_14_method_18_code (1 : Nat) (Option.some (Jvm.ClassFile.FieldType.object "java/lang/Throwable"))) ∈ lw_big := lw_bg (List.mem_of_getElem? (i := 124) (by decide +kernel)) (by decide +kernel)
theorem wd125 : (Jvm.Cond.methodLink "java/lang/Throwable" (202 : Nat) ({ cls := "java/lang/Throwable", name := "fillInStackTrace", desc := "(I)Ljava/lang/Throwable;" } : Jvm.MethodName)) ∈ lw_big := lw_bg (List.mem_of_getElem? (i := 125) (by decide +kernel)) (by decide +kernel)
theorem wd126 : (Jvm.Cond.privateMethod ({ cls := "java/lang/Throwable", name := "fillInStackTrace", desc := "(I)Ljava/lang/Throwable;" } : Jvm.MethodName)) ∈ lw_big := lw_bg (List.mem_of_getElem? (i := 126) (by decide +kernel)) (by decide +kernel)
theorem wd127 : (Jvm.Cond.instanceMethod ({ cls := "java/lang/Throwable", name := "fillInStackTrace", desc := "(I)Ljava/lang/Throwable;" } : Jvm.MethodName)) ∈ lw_big := lw_bg (List.mem_of_getElem? (i := 127) (by decide +kernel)) (by decide +kernel)
theorem wd128 : (Jvm.Cond.instantiable "java/lang/Throwable" (6 : Nat)) ∈ lw_big := lw_bg (List.mem_of_getElem? (i := 128) (by decide +kernel)) (by decide +kernel)
theorem wd129 : (Jvm.Cond.native ({ cls := "java/lang/Throwable", name := "fillInStackTrace", desc := "(I)Ljava/lang/Throwable;" } : Jvm.MethodName)) ∈ lw_big := lw_bg (List.mem_of_getElem? (i := 129) (by decide +kernel)) (by decide +kernel)
theorem wd130 : (Jvm.Cond.stringRef "FormulaShapes" (28 : Nat) "no such size") ∈ tables_1 := List.mem_of_getElem? (i := 130) (by decide +kernel)
theorem wd131 : (Jvm.Cond.methodLink "FormulaShapes" (30 : Nat) ({ cls := "java/lang/IndexOutOfBoundsException", name := "<init>", desc := "(Ljava/lang/String;)V" } : Jvm.MethodName)) ∈ lw_big := lw_bg (List.mem_of_getElem? (i := 131) (by decide +kernel)) (by decide +kernel)
theorem wd132 : (Jvm.Cond.instanceMethod ({ cls := "java/lang/IndexOutOfBoundsException", name := "<init>", desc := "(Ljava/lang/String;)V" } : Jvm.MethodName)) ∈ lw_big := lw_bg (List.mem_of_getElem? (i := 132) (by decide +kernel)) (by decide +kernel)
theorem wd133 : (Jvm.Cond.code ({ cls := "java/lang/IndexOutOfBoundsException", name := "<init>", desc := "(Ljava/lang/String;)V" } : Jvm.MethodName) prog_10_method_2_code (2 : Nat) (Option.none : Option Jvm.ClassFile.FieldType)) ∈ lw_big := lw_bg (List.mem_of_getElem? (i := 133) (by decide +kernel)) (by decide +kernel)
theorem wd134 : (Jvm.Cond.methodLink "java/lang/IndexOutOfBoundsException" (7 : Nat) ({ cls := "java/lang/RuntimeException", name := "<init>", desc := "(Ljava/lang/String;)V" } : Jvm.MethodName)) ∈ lw_big := lw_bg (List.mem_of_getElem? (i := 134) (by decide +kernel)) (by decide +kernel)
theorem wd135 : (Jvm.Cond.instanceMethod ({ cls := "java/lang/RuntimeException", name := "<init>", desc := "(Ljava/lang/String;)V" } : Jvm.MethodName)) ∈ lw_big := lw_bg (List.mem_of_getElem? (i := 135) (by decide +kernel)) (by decide +kernel)
theorem wd136 : (Jvm.Cond.code ({ cls := "java/lang/RuntimeException", name := "<init>", desc := "(Ljava/lang/String;)V" } : Jvm.MethodName) prog_12_method_2_code (2 : Nat) (Option.none : Option Jvm.ClassFile.FieldType)) ∈ lw_big := lw_bg (List.mem_of_getElem? (i := 136) (by decide +kernel)) (by decide +kernel)
theorem wd137 : (Jvm.Cond.methodLink "java/lang/RuntimeException" (7 : Nat) ({ cls := "java/lang/Exception", name := "<init>", desc := "(Ljava/lang/String;)V" } : Jvm.MethodName)) ∈ lw_big := lw_bg (List.mem_of_getElem? (i := 137) (by decide +kernel)) (by decide +kernel)
theorem wd138 : (Jvm.Cond.instanceMethod ({ cls := "java/lang/Exception", name := "<init>", desc := "(Ljava/lang/String;)V" } : Jvm.MethodName)) ∈ lw_big := lw_bg (List.mem_of_getElem? (i := 138) (by decide +kernel)) (by decide +kernel)
theorem wd139 : (Jvm.Cond.code ({ cls := "java/lang/Exception", name := "<init>", desc := "(Ljava/lang/String;)V" } : Jvm.MethodName) prog_7_method_2_code (2 : Nat) (Option.none : Option Jvm.ClassFile.FieldType)) ∈ lw_big := lw_bg (List.mem_of_getElem? (i := 139) (by decide +kernel)) (by decide +kernel)
theorem wd140 : (Jvm.Cond.methodLink "java/lang/Exception" (7 : Nat) ({ cls := "java/lang/Throwable", name := "<init>", desc := "(Ljava/lang/String;)V" } : Jvm.MethodName)) ∈ lw_big := lw_bg (List.mem_of_getElem? (i := 140) (by decide +kernel)) (by decide +kernel)
theorem wd141 : (Jvm.Cond.instanceMethod ({ cls := "java/lang/Throwable", name := "<init>", desc := "(Ljava/lang/String;)V" } : Jvm.MethodName)) ∈ lw_big := lw_bg (List.mem_of_getElem? (i := 141) (by decide +kernel)) (by decide +kernel)
theorem wd142 : (Jvm.Cond.code ({ cls := "java/lang/Throwable", name := "<init>", desc := "(Ljava/lang/String;)V" } : Jvm.MethodName) prog_14_method_2_code (2 : Nat) (Option.none : Option Jvm.ClassFile.FieldType)) ∈ lw_big := lw_bg (List.mem_of_getElem? (i := 142) (by decide +kernel)) (by decide +kernel)
theorem wd143 : (Jvm.Cond.fieldLink "java/lang/Throwable" (198 : Nat) "java/lang/Throwable" "backtrace" "Ljava/lang/Object;") ∈ lw_big := lw_bg (List.mem_of_getElem? (i := 143) (by decide +kernel)) (by decide +kernel)
theorem wd144 : (Jvm.Cond.fieldLink "java/lang/Throwable" (31 : Nat) "java/lang/Throwable" "detailMessage" "Ljava/lang/String;") ∈ lw_big := lw_bg (List.mem_of_getElem? (i := 144) (by decide +kernel)) (by decide +kernel)
theorem wd145 : (Jvm.Cond.fieldLink "java/lang/Throwable" (7 : Nat) "java/lang/Throwable" "cause" "Ljava/lang/Throwable;") ∈ lw_big := lw_bg (List.mem_of_getElem? (i := 145) (by decide +kernel)) (by decide +kernel)
theorem wd146 : (Jvm.Cond.fieldLink "java/lang/Throwable" (17 : Nat) "java/lang/Throwable" "stackTrace" "[Ljava/lang/StackTraceElement;") ∈ lw_big := lw_bg (List.mem_of_getElem? (i := 146) (by decide +kernel)) (by decide +kernel)
theorem wd147 : (Jvm.Cond.fieldLink "java/lang/Throwable" (24 : Nat) "java/lang/Throwable" "suppressedExceptions" "Ljava/util/List;") ∈ lw_big := lw_bg (List.mem_of_getElem? (i := 147) (by decide +kernel)) (by decide +kernel)
theorem wd148 : (Jvm.Cond.soleField "java/lang/Throwable" "backtrace") ∈ lw_big := lw_bg (List.mem_of_getElem? (i := 148) (by decide +kernel)) (by decide +kernel)
theorem wd149 : (Jvm.Cond.soleField "java/lang/Throwable" "detailMessage") ∈ lw_big := lw_bg (List.mem_of_getElem? (i := 149) (by decide +kernel)) (by decide +kernel)
theorem wd150 : (Jvm.Cond.soleField "java/lang/Throwable" "cause") ∈ lw_big := lw_bg (List.mem_of_getElem? (i := 150) (by decide +kernel)) (by decide +kernel)
theorem wd151 : (Jvm.Cond.soleField "java/lang/Throwable" "stackTrace") ∈ lw_big := lw_bg (List.mem_of_getElem? (i := 151) (by decide +kernel)) (by decide +kernel)
theorem wd152 : (Jvm.Cond.lays "java/lang/IndexOutOfBoundsException" "java/lang/Throwable" "depth" "I") ∈ lw_big := lw_bg (List.mem_of_getElem? (i := 152) (by decide +kernel)) (by decide +kernel)
theorem wd153 : (Jvm.Cond.soleField "java/lang/Throwable" "depth") ∈ lw_big := lw_bg (List.mem_of_getElem? (i := 153) (by decide +kernel)) (by decide +kernel)
theorem wd154 : (Jvm.Cond.soleField "java/lang/Throwable" "suppressedExceptions") ∈ lw_big := lw_bg (List.mem_of_getElem? (i := 154) (by decide +kernel)) (by decide +kernel)
theorem wd155 : (Jvm.Cond.superclass "java/lang/IndexOutOfBoundsException" "java/lang/RuntimeException") ∈ lw_big := lw_bg (List.mem_of_getElem? (i := 155) (by decide +kernel)) (by decide +kernel)
theorem wd156 : (Jvm.Cond.arrayClass Jvm.ClassFile.FieldType.byte) ∈ lw_big := lw_bg (List.mem_of_getElem? (i := 156) (by decide +kernel)) (by decide +kernel)
theorem wd157 : (Jvm.Cond.stringRef "FormulaShapes" (33 : Nat) "no such parameter") ∈ tables_1 := List.mem_of_getElem? (i := 157) (by decide +kernel)
theorem wd158 : (Jvm.Cond.constant "FormulaShapes" (35 : Nat) (-1000000 : Int32)) ∈ lw_big := lw_bg (List.mem_of_getElem? (i := 158) (by decide +kernel)) (by decide +kernel)
theorem wd159 : (Jvm.Cond.constant "FormulaShapes" (36 : Nat) (1000000 : Int32)) ∈ lw_big := lw_bg (List.mem_of_getElem? (i := 159) (by decide +kernel)) (by decide +kernel)
theorem wd160 : (Jvm.Cond.methodLink "FormulaShapes" (37 : Nat) ({ cls := "FormulaShapes", name := "needWithin", desc := "(III)V" } : Jvm.MethodName)) ∈ lw_big := lw_bg (List.mem_of_getElem? (i := 160) (by decide +kernel)) (by decide +kernel)
theorem wd161 : (Jvm.Cond.static ({ cls := "FormulaShapes", name := "needWithin", desc := "(III)V" } : Jvm.MethodName)) ∈ lw_big := lw_bg (List.mem_of_getElem? (i := 161) (by decide +kernel)) (by decide +kernel)
theorem wd162 : (Jvm.Cond.code ({ cls := "FormulaShapes", name := "needWithin", desc := "(III)V" } : Jvm.MethodName) prog_1_method_22_code (3 : Nat) (Option.none : Option Jvm.ClassFile.FieldType)) ∈ lw_big := lw_bg (List.mem_of_getElem? (i := 162) (by decide +kernel)) (by decide +kernel)
theorem wd163 : (Jvm.Cond.classLink "FormulaShapes" (88 : Nat) "java/lang/IllegalArgumentException") ∈ lw_big := lw_bg (List.mem_of_getElem? (i := 163) (by decide +kernel)) (by decide +kernel)
theorem wd164 : (Jvm.Cond.instantiable "java/lang/IllegalArgumentException" (6 : Nat)) ∈ lw_big := lw_bg (List.mem_of_getElem? (i := 164) (by decide +kernel)) (by decide +kernel)
theorem wd165 : (Jvm.Cond.castable "java/lang/IllegalArgumentException" "java/lang/IllegalArgumentException") ∈ lw_big := lw_bg (List.mem_of_getElem? (i := 165) (by decide +kernel)) (by decide +kernel)
theorem wd166 : (Jvm.Cond.selects "java/lang/IllegalArgumentException" ({ cls := "java/lang/Throwable", name := "fillInStackTrace", desc := "(I)Ljava/lang/Throwable;" } : Jvm.MethodName) ({ cls := "java/lang/Throwable", name := "fillInStackTrace", desc := "(I)Ljava/lang/Throwable;" } : Jvm.MethodName)) ∈ lw_big := lw_bg (List.mem_of_getElem? (i := 166) (by decide +kernel)) (by decide +kernel)
theorem wd167 : (Jvm.Cond.lays "java/lang/IllegalArgumentException" "java/lang/Throwable" "cause" "Ljava/lang/Throwable;") ∈ lw_big := lw_bg (List.mem_of_getElem? (i := 167) (by decide +kernel)) (by decide +kernel)
theorem wd168 : (Jvm.Cond.lays "java/lang/IllegalArgumentException" "java/lang/Throwable" "stackTrace" "[Ljava/lang/StackTraceElement;") ∈ lw_big := lw_bg (List.mem_of_getElem? (i := 168) (by decide +kernel)) (by decide +kernel)
theorem wd169 : (Jvm.Cond.lays "java/lang/IllegalArgumentException" "java/lang/Throwable" "suppressedExceptions" "Ljava/util/List;") ∈ lw_big := lw_bg (List.mem_of_getElem? (i := 169) (by decide +kernel)) (by decide +kernel)
theorem wd170 : (Jvm.Cond.lays "java/lang/IllegalArgumentException" "java/lang/Throwable" "detailMessage" "Ljava/lang/String;") ∈ lw_big := lw_bg (List.mem_of_getElem? (i := 170) (by decide +kernel)) (by decide +kernel)
theorem wd171 : (Jvm.Cond.lays "java/lang/IllegalArgumentException" "java/lang/Throwable" "backtrace" "Ljava/lang/Object;") ∈ lw_big := lw_bg (List.mem_of_getElem? (i := 171) (by decide +kernel)) (by decide +kernel)
theorem wd172 : (Jvm.Cond.stringRef "FormulaShapes" (208 : Nat) "a number is too small or too great") ∈ tables_1 := List.mem_of_getElem? (i := 172) (by decide +kernel)
theorem wd173 : (Jvm.Cond.methodLink "FormulaShapes" (92 : Nat) ({ cls := "java/lang/IllegalArgumentException", name := "<init>", desc := "(Ljava/lang/String;)V" } : Jvm.MethodName)) ∈ lw_big := lw_bg (List.mem_of_getElem? (i := 173) (by decide +kernel)) (by decide +kernel)
theorem wd174 : (Jvm.Cond.instanceMethod ({ cls := "java/lang/IllegalArgumentException", name := "<init>", desc := "(Ljava/lang/String;)V" } : Jvm.MethodName)) ∈ lw_big := lw_bg (List.mem_of_getElem? (i := 174) (by decide +kernel)) (by decide +kernel)
theorem wd175 : (Jvm.Cond.code ({ cls := "java/lang/IllegalArgumentException", name := "<init>", desc := "(Ljava/lang/String;)V" } : Jvm.MethodName) prog_8_method_2_code (2 : Nat) (Option.none : Option Jvm.ClassFile.FieldType)) ∈ lw_big := lw_bg (List.mem_of_getElem? (i := 175) (by decide +kernel)) (by decide +kernel)
theorem wd176 : (Jvm.Cond.methodLink "java/lang/IllegalArgumentException" (7 : Nat) ({ cls := "java/lang/RuntimeException", name := "<init>", desc := "(Ljava/lang/String;)V" } : Jvm.MethodName)) ∈ lw_big := lw_bg (List.mem_of_getElem? (i := 176) (by decide +kernel)) (by decide +kernel)
theorem wd177 : (Jvm.Cond.lays "java/lang/IllegalArgumentException" "java/lang/Throwable" "depth" "I") ∈ lw_big := lw_bg (List.mem_of_getElem? (i := 177) (by decide +kernel)) (by decide +kernel)
theorem wd178 : (Jvm.Cond.superclass "java/lang/IllegalArgumentException" "java/lang/RuntimeException") ∈ lw_big := lw_bg (List.mem_of_getElem? (i := 178) (by decide +kernel)) (by decide +kernel)
theorem wd179 : (Jvm.Cond.methodLink "FormulaShapesLaw" (81 : Nat) ({ cls := "FormulaShapesLaw", name := "set", desc := "(LFormulaShapes;II[J)I" } : Jvm.MethodName)) ∈ lw_big := lw_bg (List.mem_of_getElem? (i := 179) (by decide +kernel)) (by decide +kernel)
theorem wd180 : (Jvm.Cond.static ({ cls := "FormulaShapesLaw", name := "set", desc := "(LFormulaShapes;II[J)I" } : Jvm.MethodName)) ∈ lw_big := lw_bg (List.mem_of_getElem? (i := 180) (by decide +kernel)) (by decide +kernel)
theorem wd181 : (Jvm.Cond.codeWith ({ cls := "FormulaShapesLaw", name := "set", desc := "(LFormulaShapes;II[J)I" } : Jvm.MethodName) method_4_code (5 : Nat) (Option.some Jvm.ClassFile.FieldType.int) [((0 : Nat), (10 : Nat), (13 : Nat), (13 : Nat)), ((0 : Nat), (10 : Nat), (17 : Nat), (15 : Nat))]) ∈ lw_big := lw_bg (List.mem_of_getElem? (i := 181) (by decide +kernel)) (by decide +kernel)
theorem wd182 : (Jvm.Cond.methodLink "FormulaShapesLaw" (17 : Nat) ({ cls := "FormulaShapes", name := "set", desc := "(II)I" } : Jvm.MethodName)) ∈ lw_big := lw_bg (List.mem_of_getElem? (i := 182) (by decide +kernel)) (by decide +kernel)
theorem wd183 : (Jvm.Cond.instanceMethod ({ cls := "FormulaShapes", name := "set", desc := "(II)I" } : Jvm.MethodName)) ∈ lw_big := lw_bg (List.mem_of_getElem? (i := 183) (by decide +kernel)) (by decide +kernel)
theorem wd184 : (Jvm.Cond.selects "FormulaShapes" ({ cls := "FormulaShapes", name := "set", desc := "(II)I" } : Jvm.MethodName) ({ cls := "FormulaShapes", name := "set", desc := "(II)I" } : Jvm.MethodName)) ∈ lw_big := lw_bg (List.mem_of_getElem? (i := 184) (by decide +kernel)) (by decide +kernel)
theorem wd185 : (Jvm.Cond.code ({ cls := "FormulaShapes", name := "set", desc := "(II)I" } : Jvm.MethodName) prog_1_method_3_code (4 : Nat) (Option.some Jvm.ClassFile.FieldType.int)) ∈ lw_big := lw_bg (List.mem_of_getElem? (i := 185) (by decide +kernel)) (by decide +kernel)
theorem wd186 : (Jvm.Cond.stringRef "FormulaShapes" (41 : Nat) "what is 0 or 1") ∈ tables_1 := List.mem_of_getElem? (i := 186) (by decide +kernel)
theorem wd187 : (Jvm.Cond.methodLink "FormulaShapesLaw" (85 : Nat) ({ cls := "FormulaShapesLaw", name := "box", desc := "(LFormulaShapes;III[J)I" } : Jvm.MethodName)) ∈ lw_big := lw_bg (List.mem_of_getElem? (i := 187) (by decide +kernel)) (by decide +kernel)
theorem wd188 : (Jvm.Cond.static ({ cls := "FormulaShapesLaw", name := "box", desc := "(LFormulaShapes;III[J)I" } : Jvm.MethodName)) ∈ lw_big := lw_bg (List.mem_of_getElem? (i := 188) (by decide +kernel)) (by decide +kernel)
theorem wd189 : (Jvm.Cond.codeWith ({ cls := "FormulaShapesLaw", name := "box", desc := "(LFormulaShapes;III[J)I" } : Jvm.MethodName) method_5_code (6 : Nat) (Option.some Jvm.ClassFile.FieldType.int) [((0 : Nat), (12 : Nat), (15 : Nat), (15 : Nat)), ((0 : Nat), (12 : Nat), (19 : Nat), (24 : Nat))]) ∈ lw_big := lw_bg (List.mem_of_getElem? (i := 189) (by decide +kernel)) (by decide +kernel)
theorem wd190 : (Jvm.Cond.classLink "FormulaShapesLaw" (24 : Nat) "java/lang/UnsupportedOperationException") ∈ lw_big := lw_bg (List.mem_of_getElem? (i := 190) (by decide +kernel)) (by decide +kernel)
theorem wd191 : (Jvm.Cond.methodLink "FormulaShapesLaw" (21 : Nat) ({ cls := "FormulaShapes", name := "box", desc := "(III)I" } : Jvm.MethodName)) ∈ lw_big := lw_bg (List.mem_of_getElem? (i := 191) (by decide +kernel)) (by decide +kernel)
theorem wd192 : (Jvm.Cond.instanceMethod ({ cls := "FormulaShapes", name := "box", desc := "(III)I" } : Jvm.MethodName)) ∈ lw_big := lw_bg (List.mem_of_getElem? (i := 192) (by decide +kernel)) (by decide +kernel)
theorem wd193 : (Jvm.Cond.selects "FormulaShapes" ({ cls := "FormulaShapes", name := "box", desc := "(III)I" } : Jvm.MethodName) ({ cls := "FormulaShapes", name := "box", desc := "(III)I" } : Jvm.MethodName)) ∈ lw_big := lw_bg (List.mem_of_getElem? (i := 193) (by decide +kernel)) (by decide +kernel)
theorem wd194 : (Jvm.Cond.code ({ cls := "FormulaShapes", name := "box", desc := "(III)I" } : Jvm.MethodName) prog_1_method_4_code (4 : Nat) (Option.some Jvm.ClassFile.FieldType.int)) ∈ lw_big := lw_bg (List.mem_of_getElem? (i := 194) (by decide +kernel)) (by decide +kernel)
theorem wd195 : (Jvm.Cond.methodLink "FormulaShapes" (50 : Nat) ({ cls := "FormulaShapes", name := "needRoom", desc := "(I)V" } : Jvm.MethodName)) ∈ lw_big := lw_bg (List.mem_of_getElem? (i := 195) (by decide +kernel)) (by decide +kernel)
theorem wd196 : (Jvm.Cond.privateMethod ({ cls := "FormulaShapes", name := "needRoom", desc := "(I)V" } : Jvm.MethodName)) ∈ lw_big := lw_bg (List.mem_of_getElem? (i := 196) (by decide +kernel)) (by decide +kernel)
theorem wd197 : (Jvm.Cond.instanceMethod ({ cls := "FormulaShapes", name := "needRoom", desc := "(I)V" } : Jvm.MethodName)) ∈ lw_big := lw_bg (List.mem_of_getElem? (i := 197) (by decide +kernel)) (by decide +kernel)
theorem wd198 : (Jvm.Cond.code ({ cls := "FormulaShapes", name := "needRoom", desc := "(I)V" } : Jvm.MethodName) prog_1_method_25_code (2 : Nat) (Option.none : Option Jvm.ClassFile.FieldType)) ∈ lw_big := lw_bg (List.mem_of_getElem? (i := 198) (by decide +kernel)) (by decide +kernel)
theorem wd199 : (Jvm.Cond.classLink "FormulaShapes" (73 : Nat) "java/lang/UnsupportedOperationException") ∈ lw_big := lw_bg (List.mem_of_getElem? (i := 199) (by decide +kernel)) (by decide +kernel)
theorem wd200 : (Jvm.Cond.instantiable "java/lang/UnsupportedOperationException" (6 : Nat)) ∈ lw_big := lw_bg (List.mem_of_getElem? (i := 200) (by decide +kernel)) (by decide +kernel)
theorem wd201 : (Jvm.Cond.castable "java/lang/UnsupportedOperationException" "java/lang/UnsupportedOperationException") ∈ lw_big := lw_bg (List.mem_of_getElem? (i := 201) (by decide +kernel)) (by decide +kernel)
theorem wd202 : (Jvm.Cond.selects "java/lang/UnsupportedOperationException" ({ cls := "java/lang/Throwable", name := "fillInStackTrace", desc := "(I)Ljava/lang/Throwable;" } : Jvm.MethodName) ({ cls := "java/lang/Throwable", name := "fillInStackTrace", desc := "(I)Ljava/lang/Throwable;" } : Jvm.MethodName)) ∈ lw_big := lw_bg (List.mem_of_getElem? (i := 202) (by decide +kernel)) (by decide +kernel)
theorem wd203 : (Jvm.Cond.lays "java/lang/UnsupportedOperationException" "java/lang/Throwable" "cause" "Ljava/lang/Throwable;") ∈ lw_big := lw_bg (List.mem_of_getElem? (i := 203) (by decide +kernel)) (by decide +kernel)
theorem wd204 : (Jvm.Cond.lays "java/lang/UnsupportedOperationException" "java/lang/Throwable" "stackTrace" "[Ljava/lang/StackTraceElement;") ∈ lw_big := lw_bg (List.mem_of_getElem? (i := 204) (by decide +kernel)) (by decide +kernel)
theorem wd205 : (Jvm.Cond.lays "java/lang/UnsupportedOperationException" "java/lang/Throwable" "suppressedExceptions" "Ljava/util/List;") ∈ lw_big := lw_bg (List.mem_of_getElem? (i := 205) (by decide +kernel)) (by decide +kernel)
theorem wd206 : (Jvm.Cond.lays "java/lang/UnsupportedOperationException" "java/lang/Throwable" "detailMessage" "Ljava/lang/String;") ∈ lw_big := lw_bg (List.mem_of_getElem? (i := 206) (by decide +kernel)) (by decide +kernel)
theorem wd207 : (Jvm.Cond.lays "java/lang/UnsupportedOperationException" "java/lang/Throwable" "backtrace" "Ljava/lang/Object;") ∈ lw_big := lw_bg (List.mem_of_getElem? (i := 207) (by decide +kernel)) (by decide +kernel)
theorem wd208 : (Jvm.Cond.stringRef "FormulaShapes" (217 : Nat) "there are too many boxes") ∈ tables_1 := List.mem_of_getElem? (i := 208) (by decide +kernel)
theorem wd209 : (Jvm.Cond.methodLink "FormulaShapes" (77 : Nat) ({ cls := "java/lang/UnsupportedOperationException", name := "<init>", desc := "(Ljava/lang/String;)V" } : Jvm.MethodName)) ∈ lw_big := lw_bg (List.mem_of_getElem? (i := 209) (by decide +kernel)) (by decide +kernel)
theorem wd210 : (Jvm.Cond.instanceMethod ({ cls := "java/lang/UnsupportedOperationException", name := "<init>", desc := "(Ljava/lang/String;)V" } : Jvm.MethodName)) ∈ lw_big := lw_bg (List.mem_of_getElem? (i := 210) (by decide +kernel)) (by decide +kernel)
theorem wd211 : (Jvm.Cond.code ({ cls := "java/lang/UnsupportedOperationException", name := "<init>", desc := "(Ljava/lang/String;)V" } : Jvm.MethodName) prog_15_method_2_code (2 : Nat) (Option.none : Option Jvm.ClassFile.FieldType)) ∈ lw_big := lw_bg (List.mem_of_getElem? (i := 211) (by decide +kernel)) (by decide +kernel)
theorem wd212 : (Jvm.Cond.methodLink "java/lang/UnsupportedOperationException" (7 : Nat) ({ cls := "java/lang/RuntimeException", name := "<init>", desc := "(Ljava/lang/String;)V" } : Jvm.MethodName)) ∈ lw_big := lw_bg (List.mem_of_getElem? (i := 212) (by decide +kernel)) (by decide +kernel)
theorem wd213 : (Jvm.Cond.lays "java/lang/UnsupportedOperationException" "java/lang/Throwable" "depth" "I") ∈ lw_big := lw_bg (List.mem_of_getElem? (i := 213) (by decide +kernel)) (by decide +kernel)
theorem wd214 : (Jvm.Cond.superclass "java/lang/UnsupportedOperationException" "java/lang/RuntimeException") ∈ lw_big := lw_bg (List.mem_of_getElem? (i := 214) (by decide +kernel)) (by decide +kernel)
theorem wd215 : (Jvm.Cond.instantiable "FormulaShapes$Box" (6 : Nat)) ∈ lw_big := lw_bg (List.mem_of_getElem? (i := 215) (by decide +kernel)) (by decide +kernel)
theorem wd216 : (Jvm.Cond.fieldLink "FormulaShapes" (54 : Nat) "FormulaShapes" "NO_PLACES" "[I") ∈ lw_big := lw_bg (List.mem_of_getElem? (i := 216) (by decide +kernel)) (by decide +kernel)
theorem wd217 : (Jvm.Cond.laysStatic "FormulaShapes" "NO_PLACES" "[I") ∈ tables_1 := List.mem_of_getElem? (i := 217) (by decide +kernel)
theorem wd218 : (Jvm.Cond.methodLink "FormulaShapes" (57 : Nat) ({ cls := "FormulaShapes$Box", name := "<init>", desc := "(III[I)V" } : Jvm.MethodName)) ∈ lw_big := lw_bg (List.mem_of_getElem? (i := 218) (by decide +kernel)) (by decide +kernel)
theorem wd219 : (Jvm.Cond.instanceMethod ({ cls := "FormulaShapes$Box", name := "<init>", desc := "(III[I)V" } : Jvm.MethodName)) ∈ lw_big := lw_bg (List.mem_of_getElem? (i := 219) (by decide +kernel)) (by decide +kernel)
theorem wd220 : (Jvm.Cond.code ({ cls := "FormulaShapes$Box", name := "<init>", desc := "(III[I)V" } : Jvm.MethodName) prog_2_method_1_code (5 : Nat) (Option.none : Option Jvm.ClassFile.FieldType)) ∈ lw_big := lw_bg (List.mem_of_getElem? (i := 220) (by decide +kernel)) (by decide +kernel)
theorem wd221 : (Jvm.Cond.methodLink "FormulaShapes$Box" (1 : Nat) ({ cls := "FormulaShapes$Box", name := "<init>", desc := "(III[III)V" } : Jvm.MethodName)) ∈ lw_big := lw_bg (List.mem_of_getElem? (i := 221) (by decide +kernel)) (by decide +kernel)
theorem wd222 : (Jvm.Cond.instanceMethod ({ cls := "FormulaShapes$Box", name := "<init>", desc := "(III[III)V" } : Jvm.MethodName)) ∈ lw_big := lw_bg (List.mem_of_getElem? (i := 222) (by decide +kernel)) (by decide +kernel)
theorem wd223 : (Jvm.Cond.code ({ cls := "FormulaShapes$Box", name := "<init>", desc := "(III[III)V" } : Jvm.MethodName) prog_2_method_2_code (7 : Nat) (Option.none : Option Jvm.ClassFile.FieldType)) ∈ lw_big := lw_bg (List.mem_of_getElem? (i := 223) (by decide +kernel)) (by decide +kernel)
theorem wd224 : (Jvm.Cond.methodLink "FormulaShapes$Box" (7 : Nat) ({ cls := "java/lang/Object", name := "<init>", desc := "()V" } : Jvm.MethodName)) ∈ lw_big := lw_bg (List.mem_of_getElem? (i := 224) (by decide +kernel)) (by decide +kernel)
theorem wd225 : (Jvm.Cond.fieldLink "FormulaShapes$Box" (12 : Nat) "FormulaShapes$Box" "width" "I") ∈ lw_big := lw_bg (List.mem_of_getElem? (i := 225) (by decide +kernel)) (by decide +kernel)
theorem wd226 : (Jvm.Cond.fieldLink "FormulaShapes$Pile" (19 : Nat) "FormulaShapes$Box" "width" "I") ∈ lw_big := lw_bg (List.mem_of_getElem? (i := 226) (by decide +kernel)) (by decide +kernel)
theorem wd227 : (Jvm.Cond.fieldLink "FormulaShapes" (219 : Nat) "FormulaShapes$Box" "width" "I") ∈ lw_big := lw_bg (List.mem_of_getElem? (i := 227) (by decide +kernel)) (by decide +kernel)
theorem wd228 : (Jvm.Cond.fieldLink "FormulaShapes$Box" (16 : Nat) "FormulaShapes$Box" "height" "I") ∈ lw_big := lw_bg (List.mem_of_getElem? (i := 228) (by decide +kernel)) (by decide +kernel)
theorem wd229 : (Jvm.Cond.fieldLink "FormulaShapes$Pile" (37 : Nat) "FormulaShapes$Box" "height" "I") ∈ lw_big := lw_bg (List.mem_of_getElem? (i := 229) (by decide +kernel)) (by decide +kernel)
theorem wd230 : (Jvm.Cond.fieldLink "FormulaShapes" (222 : Nat) "FormulaShapes$Box" "height" "I") ∈ lw_big := lw_bg (List.mem_of_getElem? (i := 230) (by decide +kernel)) (by decide +kernel)
theorem wd231 : (Jvm.Cond.fieldLink "FormulaShapes$Box" (19 : Nat) "FormulaShapes$Box" "depth" "I") ∈ lw_big := lw_bg (List.mem_of_getElem? (i := 231) (by decide +kernel)) (by decide +kernel)
theorem wd232 : (Jvm.Cond.fieldLink "FormulaShapes$Pile" (34 : Nat) "FormulaShapes$Box" "depth" "I") ∈ lw_big := lw_bg (List.mem_of_getElem? (i := 232) (by decide +kernel)) (by decide +kernel)
theorem wd233 : (Jvm.Cond.fieldLink "FormulaShapes" (225 : Nat) "FormulaShapes$Box" "depth" "I") ∈ lw_big := lw_bg (List.mem_of_getElem? (i := 233) (by decide +kernel)) (by decide +kernel)
theorem wd234 : (Jvm.Cond.fieldLink "FormulaShapes$Box" (22 : Nat) "FormulaShapes$Box" "places" "[I") ∈ lw_big := lw_bg (List.mem_of_getElem? (i := 234) (by decide +kernel)) (by decide +kernel)
theorem wd235 : (Jvm.Cond.fieldLink "FormulaShapes" (186 : Nat) "FormulaShapes$Box" "places" "[I") ∈ lw_big := lw_bg (List.mem_of_getElem? (i := 235) (by decide +kernel)) (by decide +kernel)
theorem wd236 : (Jvm.Cond.fieldLink "FormulaShapes$Box" (26 : Nat) "FormulaShapes$Box" "ruleWidth" "I") ∈ lw_big := lw_bg (List.mem_of_getElem? (i := 236) (by decide +kernel)) (by decide +kernel)
theorem wd237 : (Jvm.Cond.fieldLink "FormulaShapes" (195 : Nat) "FormulaShapes$Box" "ruleWidth" "I") ∈ lw_big := lw_bg (List.mem_of_getElem? (i := 237) (by decide +kernel)) (by decide +kernel)
theorem wd238 : (Jvm.Cond.fieldLink "FormulaShapes$Box" (29 : Nat) "FormulaShapes$Box" "ruleHeight" "I") ∈ lw_big := lw_bg (List.mem_of_getElem? (i := 238) (by decide +kernel)) (by decide +kernel)
theorem wd239 : (Jvm.Cond.fieldLink "FormulaShapes" (198 : Nat) "FormulaShapes$Box" "ruleHeight" "I") ∈ lw_big := lw_bg (List.mem_of_getElem? (i := 239) (by decide +kernel)) (by decide +kernel)
theorem wd240 : (Jvm.Cond.laysFinal "FormulaShapes$Box" "FormulaShapes$Box" "width" "I") ∈ lw_big := lw_bg (List.mem_of_getElem? (i := 240) (by decide +kernel)) (by decide +kernel)
theorem wd241 : (Jvm.Cond.soleField "FormulaShapes$Box" "width") ∈ lw_big := lw_bg (List.mem_of_getElem? (i := 241) (by decide +kernel)) (by decide +kernel)
theorem wd242 : (Jvm.Cond.laysFinal "FormulaShapes$Box" "FormulaShapes$Box" "height" "I") ∈ lw_big := lw_bg (List.mem_of_getElem? (i := 242) (by decide +kernel)) (by decide +kernel)
theorem wd243 : (Jvm.Cond.soleField "FormulaShapes$Box" "height") ∈ lw_big := lw_bg (List.mem_of_getElem? (i := 243) (by decide +kernel)) (by decide +kernel)
theorem wd244 : (Jvm.Cond.laysFinal "FormulaShapes$Box" "FormulaShapes$Box" "depth" "I") ∈ lw_big := lw_bg (List.mem_of_getElem? (i := 244) (by decide +kernel)) (by decide +kernel)
theorem wd245 : (Jvm.Cond.soleField "FormulaShapes$Box" "depth") ∈ lw_big := lw_bg (List.mem_of_getElem? (i := 245) (by decide +kernel)) (by decide +kernel)
theorem wd246 : (Jvm.Cond.laysFinal "FormulaShapes$Box" "FormulaShapes$Box" "places" "[I") ∈ lw_big := lw_bg (List.mem_of_getElem? (i := 246) (by decide +kernel)) (by decide +kernel)
theorem wd247 : (Jvm.Cond.soleField "FormulaShapes$Box" "places") ∈ lw_big := lw_bg (List.mem_of_getElem? (i := 247) (by decide +kernel)) (by decide +kernel)
theorem wd248 : (Jvm.Cond.laysFinal "FormulaShapes$Box" "FormulaShapes$Box" "ruleWidth" "I") ∈ lw_big := lw_bg (List.mem_of_getElem? (i := 248) (by decide +kernel)) (by decide +kernel)
theorem wd249 : (Jvm.Cond.soleField "FormulaShapes$Box" "ruleWidth") ∈ lw_big := lw_bg (List.mem_of_getElem? (i := 249) (by decide +kernel)) (by decide +kernel)
theorem wd250 : (Jvm.Cond.laysFinal "FormulaShapes$Box" "FormulaShapes$Box" "ruleHeight" "I") ∈ lw_big := lw_bg (List.mem_of_getElem? (i := 250) (by decide +kernel)) (by decide +kernel)
theorem wd251 : (Jvm.Cond.soleField "FormulaShapes$Box" "ruleHeight") ∈ lw_big := lw_bg (List.mem_of_getElem? (i := 251) (by decide +kernel)) (by decide +kernel)
theorem wd252 : (Jvm.Cond.superclass "FormulaShapes$Box" "java/lang/Object") ∈ lw_big := lw_bg (List.mem_of_getElem? (i := 252) (by decide +kernel)) (by decide +kernel)
theorem wd253 : (Jvm.Cond.methodLink "FormulaShapes" (60 : Nat) ({ cls := "FormulaShapes", name := "keep", desc := "(LFormulaShapes$Box;)I" } : Jvm.MethodName)) ∈ lw_big := lw_bg (List.mem_of_getElem? (i := 253) (by decide +kernel)) (by decide +kernel)
theorem wd254 : (Jvm.Cond.privateMethod ({ cls := "FormulaShapes", name := "keep", desc := "(LFormulaShapes$Box;)I" } : Jvm.MethodName)) ∈ lw_big := lw_bg (List.mem_of_getElem? (i := 254) (by decide +kernel)) (by decide +kernel)
theorem wd255 : (Jvm.Cond.instanceMethod ({ cls := "FormulaShapes", name := "keep", desc := "(LFormulaShapes$Box;)I" } : Jvm.MethodName)) ∈ lw_big := lw_bg (List.mem_of_getElem? (i := 255) (by decide +kernel)) (by decide +kernel)
theorem wd256 : (Jvm.Cond.code ({ cls := "FormulaShapes", name := "keep", desc := "(LFormulaShapes$Box;)I" } : Jvm.MethodName) prog_1_method_26_code (3 : Nat) (Option.some Jvm.ClassFile.FieldType.int)) ∈ lw_big := lw_bg (List.mem_of_getElem? (i := 256) (by decide +kernel)) (by decide +kernel)
theorem wd257 : (Jvm.Cond.methodLink "FormulaShapesLaw" (88 : Nat) ({ cls := "FormulaShapesLaw", name := "sign", desc := "(LFormulaShapes;II[J)I" } : Jvm.MethodName)) ∈ lw_big := lw_bg (List.mem_of_getElem? (i := 257) (by decide +kernel)) (by decide +kernel)
theorem wd258 : (Jvm.Cond.static ({ cls := "FormulaShapesLaw", name := "sign", desc := "(LFormulaShapes;II[J)I" } : Jvm.MethodName)) ∈ lw_big := lw_bg (List.mem_of_getElem? (i := 258) (by decide +kernel)) (by decide +kernel)
theorem wd259 : (Jvm.Cond.codeWith ({ cls := "FormulaShapesLaw", name := "sign", desc := "(LFormulaShapes;II[J)I" } : Jvm.MethodName) method_6_code (5 : Nat) (Option.some Jvm.ClassFile.FieldType.int) [((0 : Nat), (10 : Nat), (13 : Nat), (13 : Nat)), ((0 : Nat), (10 : Nat), (17 : Nat), (24 : Nat))]) ∈ lw_big := lw_bg (List.mem_of_getElem? (i := 259) (by decide +kernel)) (by decide +kernel)
theorem wd260 : (Jvm.Cond.methodLink "FormulaShapesLaw" (26 : Nat) ({ cls := "FormulaShapes", name := "sign", desc := "(II)I" } : Jvm.MethodName)) ∈ lw_big := lw_bg (List.mem_of_getElem? (i := 260) (by decide +kernel)) (by decide +kernel)
theorem wd261 : (Jvm.Cond.instanceMethod ({ cls := "FormulaShapes", name := "sign", desc := "(II)I" } : Jvm.MethodName)) ∈ lw_big := lw_bg (List.mem_of_getElem? (i := 261) (by decide +kernel)) (by decide +kernel)
theorem wd262 : (Jvm.Cond.selects "FormulaShapes" ({ cls := "FormulaShapes", name := "sign", desc := "(II)I" } : Jvm.MethodName) ({ cls := "FormulaShapes", name := "sign", desc := "(II)I" } : Jvm.MethodName)) ∈ lw_big := lw_bg (List.mem_of_getElem? (i := 262) (by decide +kernel)) (by decide +kernel)
theorem wd263 : (Jvm.Cond.code ({ cls := "FormulaShapes", name := "sign", desc := "(II)I" } : Jvm.MethodName) prog_1_method_5_code (4 : Nat) (Option.some Jvm.ClassFile.FieldType.int)) ∈ lw_big := lw_bg (List.mem_of_getElem? (i := 263) (by decide +kernel)) (by decide +kernel)
theorem wd264 : (Jvm.Cond.methodLink "FormulaShapes" (64 : Nat) ({ cls := "FormulaShapes", name := "needFamily", desc := "(I)V" } : Jvm.MethodName)) ∈ lw_big := lw_bg (List.mem_of_getElem? (i := 264) (by decide +kernel)) (by decide +kernel)
theorem wd265 : (Jvm.Cond.static ({ cls := "FormulaShapes", name := "needFamily", desc := "(I)V" } : Jvm.MethodName)) ∈ lw_big := lw_bg (List.mem_of_getElem? (i := 265) (by decide +kernel)) (by decide +kernel)
theorem wd266 : (Jvm.Cond.code ({ cls := "FormulaShapes", name := "needFamily", desc := "(I)V" } : Jvm.MethodName) prog_1_method_20_code (1 : Nat) (Option.none : Option Jvm.ClassFile.FieldType)) ∈ lw_big := lw_bg (List.mem_of_getElem? (i := 266) (by decide +kernel)) (by decide +kernel)
theorem wd267 : (Jvm.Cond.stringRef "FormulaShapes" (204 : Nat) "no such family") ∈ tables_1 := List.mem_of_getElem? (i := 267) (by decide +kernel)
theorem wd268 : (Jvm.Cond.methodLink "FormulaShapes" (67 : Nat) ({ cls := "FormulaShapes", name := "needBox", desc := "(I)V" } : Jvm.MethodName)) ∈ lw_big := lw_bg (List.mem_of_getElem? (i := 268) (by decide +kernel)) (by decide +kernel)
theorem wd269 : (Jvm.Cond.privateMethod ({ cls := "FormulaShapes", name := "needBox", desc := "(I)V" } : Jvm.MethodName)) ∈ lw_big := lw_bg (List.mem_of_getElem? (i := 269) (by decide +kernel)) (by decide +kernel)
theorem wd270 : (Jvm.Cond.instanceMethod ({ cls := "FormulaShapes", name := "needBox", desc := "(I)V" } : Jvm.MethodName)) ∈ lw_big := lw_bg (List.mem_of_getElem? (i := 270) (by decide +kernel)) (by decide +kernel)
theorem wd271 : (Jvm.Cond.code ({ cls := "FormulaShapes", name := "needBox", desc := "(I)V" } : Jvm.MethodName) prog_1_method_18_code (2 : Nat) (Option.none : Option Jvm.ClassFile.FieldType)) ∈ lw_big := lw_bg (List.mem_of_getElem? (i := 271) (by decide +kernel)) (by decide +kernel)
theorem wd272 : (Jvm.Cond.stringRef "FormulaShapes" (202 : Nat) "no such box") ∈ tables_1 := List.mem_of_getElem? (i := 272) (by decide +kernel)
theorem wd273 : (Jvm.Cond.stringRef "FormulaShapes" (75 : Nat) "the family has all its boxes") ∈ tables_1 := List.mem_of_getElem? (i := 273) (by decide +kernel)
theorem wd274 : (Jvm.Cond.methodLink "FormulaShapesLaw" (91 : Nat) ({ cls := "FormulaShapesLaw", name := "pieces", desc := "(LFormulaShapes;IIIII)I" } : Jvm.MethodName)) ∈ lw_big := lw_bg (List.mem_of_getElem? (i := 274) (by decide +kernel)) (by decide +kernel)
theorem wd275 : (Jvm.Cond.static ({ cls := "FormulaShapesLaw", name := "pieces", desc := "(LFormulaShapes;IIIII)I" } : Jvm.MethodName)) ∈ lw_big := lw_bg (List.mem_of_getElem? (i := 275) (by decide +kernel)) (by decide +kernel)
theorem wd276 : (Jvm.Cond.codeWith ({ cls := "FormulaShapesLaw", name := "pieces", desc := "(LFormulaShapes;IIIII)I" } : Jvm.MethodName) method_7_code (7 : Nat) (Option.some Jvm.ClassFile.FieldType.int) [((0 : Nat), (11 : Nat), (14 : Nat), (13 : Nat)), ((0 : Nat), (11 : Nat), (18 : Nat), (15 : Nat))]) ∈ lw_big := lw_bg (List.mem_of_getElem? (i := 276) (by decide +kernel)) (by decide +kernel)
theorem wd277 : (Jvm.Cond.methodLink "FormulaShapesLaw" (29 : Nat) ({ cls := "FormulaShapes", name := "pieces", desc := "(IIIII)V" } : Jvm.MethodName)) ∈ lw_big := lw_bg (List.mem_of_getElem? (i := 277) (by decide +kernel)) (by decide +kernel)
theorem wd278 : (Jvm.Cond.instanceMethod ({ cls := "FormulaShapes", name := "pieces", desc := "(IIIII)V" } : Jvm.MethodName)) ∈ lw_big := lw_bg (List.mem_of_getElem? (i := 278) (by decide +kernel)) (by decide +kernel)
theorem wd279 : (Jvm.Cond.selects "FormulaShapes" ({ cls := "FormulaShapes", name := "pieces", desc := "(IIIII)V" } : Jvm.MethodName) ({ cls := "FormulaShapes", name := "pieces", desc := "(IIIII)V" } : Jvm.MethodName)) ∈ lw_big := lw_bg (List.mem_of_getElem? (i := 279) (by decide +kernel)) (by decide +kernel)
theorem wd280 : (Jvm.Cond.code ({ cls := "FormulaShapes", name := "pieces", desc := "(IIIII)V" } : Jvm.MethodName) prog_1_method_6_code (7 : Nat) (Option.none : Option Jvm.ClassFile.FieldType)) ∈ lw_big := lw_bg (List.mem_of_getElem? (i := 280) (by decide +kernel)) (by decide +kernel)
theorem wd281 : (Jvm.Cond.methodLink "FormulaShapes" (81 : Nat) ({ cls := "FormulaShapes", name := "needBoxOrNone", desc := "(I)V" } : Jvm.MethodName)) ∈ lw_big := lw_bg (List.mem_of_getElem? (i := 281) (by decide +kernel)) (by decide +kernel)
theorem wd282 : (Jvm.Cond.privateMethod ({ cls := "FormulaShapes", name := "needBoxOrNone", desc := "(I)V" } : Jvm.MethodName)) ∈ lw_big := lw_bg (List.mem_of_getElem? (i := 282) (by decide +kernel)) (by decide +kernel)
theorem wd283 : (Jvm.Cond.instanceMethod ({ cls := "FormulaShapes", name := "needBoxOrNone", desc := "(I)V" } : Jvm.MethodName)) ∈ lw_big := lw_bg (List.mem_of_getElem? (i := 283) (by decide +kernel)) (by decide +kernel)
theorem wd284 : (Jvm.Cond.code ({ cls := "FormulaShapes", name := "needBoxOrNone", desc := "(I)V" } : Jvm.MethodName) prog_1_method_19_code (2 : Nat) (Option.none : Option Jvm.ClassFile.FieldType)) ∈ lw_big := lw_bg (List.mem_of_getElem? (i := 284) (by decide +kernel)) (by decide +kernel)
theorem wd285 : (Jvm.Cond.methodLink "FormulaShapes" (84 : Nat) ({ cls := "FormulaShapes", name := "extentOf", desc := "(I)I" } : Jvm.MethodName)) ∈ lw_big := lw_bg (List.mem_of_getElem? (i := 285) (by decide +kernel)) (by decide +kernel)
theorem wd286 : (Jvm.Cond.privateMethod ({ cls := "FormulaShapes", name := "extentOf", desc := "(I)I" } : Jvm.MethodName)) ∈ lw_big := lw_bg (List.mem_of_getElem? (i := 286) (by decide +kernel)) (by decide +kernel)
theorem wd287 : (Jvm.Cond.instanceMethod ({ cls := "FormulaShapes", name := "extentOf", desc := "(I)I" } : Jvm.MethodName)) ∈ lw_big := lw_bg (List.mem_of_getElem? (i := 287) (by decide +kernel)) (by decide +kernel)
theorem wd288 : (Jvm.Cond.code ({ cls := "FormulaShapes", name := "extentOf", desc := "(I)I" } : Jvm.MethodName) prog_1_method_30_code (2 : Nat) (Option.some Jvm.ClassFile.FieldType.int)) ∈ lw_big := lw_bg (List.mem_of_getElem? (i := 288) (by decide +kernel)) (by decide +kernel)
theorem wd289 : (Jvm.Cond.stringRef "FormulaShapes" (90 : Nat) "the repeated piece must be above 0 high") ∈ tables_1 := List.mem_of_getElem? (i := 289) (by decide +kernel)
theorem wd290 : (Jvm.Cond.methodLink "FormulaShapesLaw" (95 : Nat) ({ cls := "FormulaShapesLaw", name := "signOf", desc := "(LFormulaShapes;II[J)I" } : Jvm.MethodName)) ∈ lw_big := lw_bg (List.mem_of_getElem? (i := 290) (by decide +kernel)) (by decide +kernel)
theorem wd291 : (Jvm.Cond.static ({ cls := "FormulaShapesLaw", name := "signOf", desc := "(LFormulaShapes;II[J)I" } : Jvm.MethodName)) ∈ lw_big := lw_bg (List.mem_of_getElem? (i := 291) (by decide +kernel)) (by decide +kernel)
theorem wd292 : (Jvm.Cond.codeWith ({ cls := "FormulaShapesLaw", name := "signOf", desc := "(LFormulaShapes;II[J)I" } : Jvm.MethodName) method_8_code (5 : Nat) (Option.some Jvm.ClassFile.FieldType.int) [((0 : Nat), (10 : Nat), (13 : Nat), (13 : Nat)), ((0 : Nat), (10 : Nat), (17 : Nat), (15 : Nat)), ((0 : Nat), (10 : Nat), (21 : Nat), (36 : Nat)), ((0 : Nat), (10 : Nat), (25 : Nat), (24 : Nat))]) ∈ lw_big := lw_bg (List.mem_of_getElem? (i := 292) (by decide +kernel)) (by decide +kernel)
theorem wd293 : (Jvm.Cond.classLink "FormulaShapesLaw" (36 : Nat) "java/lang/IllegalStateException") ∈ lw_big := lw_bg (List.mem_of_getElem? (i := 293) (by decide +kernel)) (by decide +kernel)
theorem wd294 : (Jvm.Cond.methodLink "FormulaShapesLaw" (33 : Nat) ({ cls := "FormulaShapes", name := "signOf", desc := "(II)I" } : Jvm.MethodName)) ∈ lw_big := lw_bg (List.mem_of_getElem? (i := 294) (by decide +kernel)) (by decide +kernel)
theorem wd295 : (Jvm.Cond.instanceMethod ({ cls := "FormulaShapes", name := "signOf", desc := "(II)I" } : Jvm.MethodName)) ∈ lw_big := lw_bg (List.mem_of_getElem? (i := 295) (by decide +kernel)) (by decide +kernel)
theorem wd296 : (Jvm.Cond.selects "FormulaShapes" ({ cls := "FormulaShapes", name := "signOf", desc := "(II)I" } : Jvm.MethodName) ({ cls := "FormulaShapes", name := "signOf", desc := "(II)I" } : Jvm.MethodName)) ∈ lw_big := lw_bg (List.mem_of_getElem? (i := 296) (by decide +kernel)) (by decide +kernel)
theorem wd297 : (Jvm.Cond.code ({ cls := "FormulaShapes", name := "signOf", desc := "(II)I" } : Jvm.MethodName) prog_1_method_7_code (5 : Nat) (Option.some Jvm.ClassFile.FieldType.int)) ∈ lw_big := lw_bg (List.mem_of_getElem? (i := 297) (by decide +kernel)) (by decide +kernel)
theorem wd298 : (Jvm.Cond.constant "FormulaShapes" (105 : Nat) (100000000 : Int32)) ∈ lw_big := lw_bg (List.mem_of_getElem? (i := 298) (by decide +kernel)) (by decide +kernel)
theorem wd299 : (Jvm.Cond.methodLink "FormulaShapes" (106 : Nat) ({ cls := "FormulaShapes", name := "needSign", desc := "(LFormulaShapes$Family;)V" } : Jvm.MethodName)) ∈ lw_big := lw_bg (List.mem_of_getElem? (i := 299) (by decide +kernel)) (by decide +kernel)
theorem wd300 : (Jvm.Cond.static ({ cls := "FormulaShapes", name := "needSign", desc := "(LFormulaShapes$Family;)V" } : Jvm.MethodName)) ∈ lw_big := lw_bg (List.mem_of_getElem? (i := 300) (by decide +kernel)) (by decide +kernel)
theorem wd301 : (Jvm.Cond.code ({ cls := "FormulaShapes", name := "needSign", desc := "(LFormulaShapes$Family;)V" } : Jvm.MethodName) prog_1_method_24_code (1 : Nat) (Option.none : Option Jvm.ClassFile.FieldType)) ∈ lw_big := lw_bg (List.mem_of_getElem? (i := 301) (by decide +kernel)) (by decide +kernel)
theorem wd302 : (Jvm.Cond.classLink "FormulaShapes" (212 : Nat) "java/lang/IllegalStateException") ∈ lw_big := lw_bg (List.mem_of_getElem? (i := 302) (by decide +kernel)) (by decide +kernel)
theorem wd303 : (Jvm.Cond.instantiable "java/lang/IllegalStateException" (6 : Nat)) ∈ lw_big := lw_bg (List.mem_of_getElem? (i := 303) (by decide +kernel)) (by decide +kernel)
theorem wd304 : (Jvm.Cond.castable "java/lang/IllegalStateException" "java/lang/IllegalStateException") ∈ lw_big := lw_bg (List.mem_of_getElem? (i := 304) (by decide +kernel)) (by decide +kernel)
theorem wd305 : (Jvm.Cond.selects "java/lang/IllegalStateException" ({ cls := "java/lang/Throwable", name := "fillInStackTrace", desc := "(I)Ljava/lang/Throwable;" } : Jvm.MethodName) ({ cls := "java/lang/Throwable", name := "fillInStackTrace", desc := "(I)Ljava/lang/Throwable;" } : Jvm.MethodName)) ∈ lw_big := lw_bg (List.mem_of_getElem? (i := 305) (by decide +kernel)) (by decide +kernel)
theorem wd306 : (Jvm.Cond.lays "java/lang/IllegalStateException" "java/lang/Throwable" "cause" "Ljava/lang/Throwable;") ∈ lw_big := lw_bg (List.mem_of_getElem? (i := 306) (by decide +kernel)) (by decide +kernel)
theorem wd307 : (Jvm.Cond.lays "java/lang/IllegalStateException" "java/lang/Throwable" "stackTrace" "[Ljava/lang/StackTraceElement;") ∈ lw_big := lw_bg (List.mem_of_getElem? (i := 307) (by decide +kernel)) (by decide +kernel)
theorem wd308 : (Jvm.Cond.lays "java/lang/IllegalStateException" "java/lang/Throwable" "suppressedExceptions" "Ljava/util/List;") ∈ lw_big := lw_bg (List.mem_of_getElem? (i := 308) (by decide +kernel)) (by decide +kernel)
theorem wd309 : (Jvm.Cond.lays "java/lang/IllegalStateException" "java/lang/Throwable" "detailMessage" "Ljava/lang/String;") ∈ lw_big := lw_bg (List.mem_of_getElem? (i := 309) (by decide +kernel)) (by decide +kernel)
theorem wd310 : (Jvm.Cond.lays "java/lang/IllegalStateException" "java/lang/Throwable" "backtrace" "Ljava/lang/Object;") ∈ lw_big := lw_bg (List.mem_of_getElem? (i := 310) (by decide +kernel)) (by decide +kernel)
theorem wd311 : (Jvm.Cond.stringRef "FormulaShapes" (214 : Nat) "the family has neither boxes nor pieces") ∈ tables_1 := List.mem_of_getElem? (i := 311) (by decide +kernel)
theorem wd312 : (Jvm.Cond.methodLink "FormulaShapes" (216 : Nat) ({ cls := "java/lang/IllegalStateException", name := "<init>", desc := "(Ljava/lang/String;)V" } : Jvm.MethodName)) ∈ lw_big := lw_bg (List.mem_of_getElem? (i := 312) (by decide +kernel)) (by decide +kernel)
theorem wd313 : (Jvm.Cond.instanceMethod ({ cls := "java/lang/IllegalStateException", name := "<init>", desc := "(Ljava/lang/String;)V" } : Jvm.MethodName)) ∈ lw_big := lw_bg (List.mem_of_getElem? (i := 313) (by decide +kernel)) (by decide +kernel)
theorem wd314 : (Jvm.Cond.code ({ cls := "java/lang/IllegalStateException", name := "<init>", desc := "(Ljava/lang/String;)V" } : Jvm.MethodName) prog_9_method_2_code (2 : Nat) (Option.none : Option Jvm.ClassFile.FieldType)) ∈ lw_big := lw_bg (List.mem_of_getElem? (i := 314) (by decide +kernel)) (by decide +kernel)
theorem wd315 : (Jvm.Cond.methodLink "java/lang/IllegalStateException" (7 : Nat) ({ cls := "java/lang/RuntimeException", name := "<init>", desc := "(Ljava/lang/String;)V" } : Jvm.MethodName)) ∈ lw_big := lw_bg (List.mem_of_getElem? (i := 315) (by decide +kernel)) (by decide +kernel)
theorem wd316 : (Jvm.Cond.lays "java/lang/IllegalStateException" "java/lang/Throwable" "depth" "I") ∈ lw_big := lw_bg (List.mem_of_getElem? (i := 316) (by decide +kernel)) (by decide +kernel)
theorem wd317 : (Jvm.Cond.superclass "java/lang/IllegalStateException" "java/lang/RuntimeException") ∈ lw_big := lw_bg (List.mem_of_getElem? (i := 317) (by decide +kernel)) (by decide +kernel)
theorem wd318 : (Jvm.Cond.methodLink "FormulaShapes" (110 : Nat) ({ cls := "FormulaShapes", name := "readySign", desc := "(LFormulaShapes$Family;I)I" } : Jvm.MethodName)) ∈ lw_big := lw_bg (List.mem_of_getElem? (i := 318) (by decide +kernel)) (by decide +kernel)
theorem wd319 : (Jvm.Cond.privateMethod ({ cls := "FormulaShapes", name := "readySign", desc := "(LFormulaShapes$Family;I)I" } : Jvm.MethodName)) ∈ lw_big := lw_bg (List.mem_of_getElem? (i := 319) (by decide +kernel)) (by decide +kernel)
theorem wd320 : (Jvm.Cond.instanceMethod ({ cls := "FormulaShapes", name := "readySign", desc := "(LFormulaShapes$Family;I)I" } : Jvm.MethodName)) ∈ lw_big := lw_bg (List.mem_of_getElem? (i := 320) (by decide +kernel)) (by decide +kernel)
theorem wd321 : (Jvm.Cond.code ({ cls := "FormulaShapes", name := "readySign", desc := "(LFormulaShapes$Family;I)I" } : Jvm.MethodName) prog_1_method_35_code (4 : Nat) (Option.some Jvm.ClassFile.FieldType.int)) ∈ lw_big := lw_bg (List.mem_of_getElem? (i := 321) (by decide +kernel)) (by decide +kernel)
theorem wd322 : (Jvm.Cond.methodLink "FormulaShapes" (114 : Nat) ({ cls := "FormulaShapes", name := "newBoxesFor", desc := "(I)I" } : Jvm.MethodName)) ∈ lw_big := lw_bg (List.mem_of_getElem? (i := 322) (by decide +kernel)) (by decide +kernel)
theorem wd323 : (Jvm.Cond.static ({ cls := "FormulaShapes", name := "newBoxesFor", desc := "(I)I" } : Jvm.MethodName)) ∈ lw_big := lw_bg (List.mem_of_getElem? (i := 323) (by decide +kernel)) (by decide +kernel)
theorem wd324 : (Jvm.Cond.code ({ cls := "FormulaShapes", name := "newBoxesFor", desc := "(I)I" } : Jvm.MethodName) prog_1_method_36_code (1 : Nat) (Option.some Jvm.ClassFile.FieldType.int)) ∈ lw_big := lw_bg (List.mem_of_getElem? (i := 324) (by decide +kernel)) (by decide +kernel)
theorem wd325 : (Jvm.Cond.methodLink "FormulaShapes" (117 : Nat) ({ cls := "FormulaShapes", name := "keptSign", desc := "(LFormulaShapes$Family;II)I" } : Jvm.MethodName)) ∈ lw_big := lw_bg (List.mem_of_getElem? (i := 325) (by decide +kernel)) (by decide +kernel)
theorem wd326 : (Jvm.Cond.privateMethod ({ cls := "FormulaShapes", name := "keptSign", desc := "(LFormulaShapes$Family;II)I" } : Jvm.MethodName)) ∈ lw_big := lw_bg (List.mem_of_getElem? (i := 326) (by decide +kernel)) (by decide +kernel)
theorem wd327 : (Jvm.Cond.instanceMethod ({ cls := "FormulaShapes", name := "keptSign", desc := "(LFormulaShapes$Family;II)I" } : Jvm.MethodName)) ∈ lw_big := lw_bg (List.mem_of_getElem? (i := 327) (by decide +kernel)) (by decide +kernel)
theorem wd328 : (Jvm.Cond.code ({ cls := "FormulaShapes", name := "keptSign", desc := "(LFormulaShapes$Family;II)I" } : Jvm.MethodName) prog_1_method_37_code (4 : Nat) (Option.some Jvm.ClassFile.FieldType.int)) ∈ lw_big := lw_bg (List.mem_of_getElem? (i := 328) (by decide +kernel)) (by decide +kernel)
theorem wd329 : (Jvm.Cond.methodLink "FormulaShapes" (231 : Nat) ({ cls := "FormulaShapes", name := "putTogether", desc := "(LFormulaShapes$Family;I)LFormulaShapes$Box;" } : Jvm.MethodName)) ∈ lw_big := lw_bg (List.mem_of_getElem? (i := 329) (by decide +kernel)) (by decide +kernel)
theorem wd330 : (Jvm.Cond.privateMethod ({ cls := "FormulaShapes", name := "putTogether", desc := "(LFormulaShapes$Family;I)LFormulaShapes$Box;" } : Jvm.MethodName)) ∈ lw_big := lw_bg (List.mem_of_getElem? (i := 330) (by decide +kernel)) (by decide +kernel)
theorem wd331 : (Jvm.Cond.instanceMethod ({ cls := "FormulaShapes", name := "putTogether", desc := "(LFormulaShapes$Family;I)LFormulaShapes$Box;" } : Jvm.MethodName)) ∈ lw_big := lw_bg (List.mem_of_getElem? (i := 331) (by decide +kernel)) (by decide +kernel)
theorem wd332 : (Jvm.Cond.code ({ cls := "FormulaShapes", name := "putTogether", desc := "(LFormulaShapes$Family;I)LFormulaShapes$Box;" } : Jvm.MethodName) prog_1_method_38_code (10 : Nat) (Option.some (Jvm.ClassFile.FieldType.object "FormulaShapes$Box"))) ∈ lw_big := lw_bg (List.mem_of_getElem? (i := 332) (by decide +kernel)) (by decide +kernel)
theorem wd333 : (Jvm.Cond.methodLink "FormulaShapes" (235 : Nat) ({ cls := "FormulaShapes", name := "oneIfThere", desc := "(I)I" } : Jvm.MethodName)) ∈ lw_big := lw_bg (List.mem_of_getElem? (i := 333) (by decide +kernel)) (by decide +kernel)
theorem wd334 : (Jvm.Cond.static ({ cls := "FormulaShapes", name := "oneIfThere", desc := "(I)I" } : Jvm.MethodName)) ∈ lw_big := lw_bg (List.mem_of_getElem? (i := 334) (by decide +kernel)) (by decide +kernel)
theorem wd335 : (Jvm.Cond.code ({ cls := "FormulaShapes", name := "oneIfThere", desc := "(I)I" } : Jvm.MethodName) prog_1_method_39_code (1 : Nat) (Option.some Jvm.ClassFile.FieldType.int)) ∈ lw_big := lw_bg (List.mem_of_getElem? (i := 335) (by decide +kernel)) (by decide +kernel)
theorem wd336 : (Jvm.Cond.classLink "FormulaShapes" (238 : Nat) "FormulaShapes$Pile") ∈ lw_big := lw_bg (List.mem_of_getElem? (i := 336) (by decide +kernel)) (by decide +kernel)
theorem wd337 : (Jvm.Cond.instantiable "FormulaShapes$Pile" (4 : Nat)) ∈ lw_big := lw_bg (List.mem_of_getElem? (i := 337) (by decide +kernel)) (by decide +kernel)
theorem wd338 : (Jvm.Cond.methodLink "FormulaShapes" (240 : Nat) ({ cls := "FormulaShapes$Pile", name := "<init>", desc := "(I)V" } : Jvm.MethodName)) ∈ lw_big := lw_bg (List.mem_of_getElem? (i := 338) (by decide +kernel)) (by decide +kernel)
theorem wd339 : (Jvm.Cond.instanceMethod ({ cls := "FormulaShapes$Pile", name := "<init>", desc := "(I)V" } : Jvm.MethodName)) ∈ lw_big := lw_bg (List.mem_of_getElem? (i := 339) (by decide +kernel)) (by decide +kernel)
theorem wd340 : (Jvm.Cond.code ({ cls := "FormulaShapes$Pile", name := "<init>", desc := "(I)V" } : Jvm.MethodName) prog_4_method_1_code (2 : Nat) (Option.none : Option Jvm.ClassFile.FieldType)) ∈ lw_big := lw_bg (List.mem_of_getElem? (i := 340) (by decide +kernel)) (by decide +kernel)
theorem wd341 : (Jvm.Cond.methodLink "FormulaShapes$Pile" (3 : Nat) ({ cls := "java/lang/Object", name := "<init>", desc := "()V" } : Jvm.MethodName)) ∈ lw_big := lw_bg (List.mem_of_getElem? (i := 341) (by decide +kernel)) (by decide +kernel)
theorem wd342 : (Jvm.Cond.fieldLink "FormulaShapes$Pile" (9 : Nat) "FormulaShapes$Pile" "places" "[I") ∈ lw_big := lw_bg (List.mem_of_getElem? (i := 342) (by decide +kernel)) (by decide +kernel)
theorem wd343 : (Jvm.Cond.fieldLink "FormulaShapes$Pile" (15 : Nat) "FormulaShapes$Pile" "filled" "I") ∈ lw_big := lw_bg (List.mem_of_getElem? (i := 343) (by decide +kernel)) (by decide +kernel)
theorem wd344 : (Jvm.Cond.fieldLink "FormulaShapes$Pile" (31 : Nat) "FormulaShapes$Pile" "top" "I") ∈ lw_big := lw_bg (List.mem_of_getElem? (i := 344) (by decide +kernel)) (by decide +kernel)
theorem wd345 : (Jvm.Cond.fieldLink "FormulaShapes$Pile" (24 : Nat) "FormulaShapes$Pile" "width" "I") ∈ lw_big := lw_bg (List.mem_of_getElem? (i := 345) (by decide +kernel)) (by decide +kernel)
theorem wd346 : (Jvm.Cond.laysFinal "FormulaShapes$Pile" "FormulaShapes$Pile" "places" "[I") ∈ lw_big := lw_bg (List.mem_of_getElem? (i := 346) (by decide +kernel)) (by decide +kernel)
theorem wd347 : (Jvm.Cond.soleField "FormulaShapes$Pile" "places") ∈ lw_big := lw_bg (List.mem_of_getElem? (i := 347) (by decide +kernel)) (by decide +kernel)
theorem wd348 : (Jvm.Cond.lays "FormulaShapes$Pile" "FormulaShapes$Pile" "filled" "I") ∈ lw_big := lw_bg (List.mem_of_getElem? (i := 348) (by decide +kernel)) (by decide +kernel)
theorem wd349 : (Jvm.Cond.soleField "FormulaShapes$Pile" "filled") ∈ lw_big := lw_bg (List.mem_of_getElem? (i := 349) (by decide +kernel)) (by decide +kernel)
theorem wd350 : (Jvm.Cond.lays "FormulaShapes$Pile" "FormulaShapes$Pile" "top" "I") ∈ lw_big := lw_bg (List.mem_of_getElem? (i := 350) (by decide +kernel)) (by decide +kernel)
theorem wd351 : (Jvm.Cond.soleField "FormulaShapes$Pile" "top") ∈ lw_big := lw_bg (List.mem_of_getElem? (i := 351) (by decide +kernel)) (by decide +kernel)
theorem wd352 : (Jvm.Cond.lays "FormulaShapes$Pile" "FormulaShapes$Pile" "width" "I") ∈ lw_big := lw_bg (List.mem_of_getElem? (i := 352) (by decide +kernel)) (by decide +kernel)
theorem wd353 : (Jvm.Cond.soleField "FormulaShapes$Pile" "width") ∈ lw_big := lw_bg (List.mem_of_getElem? (i := 353) (by decide +kernel)) (by decide +kernel)
theorem wd354 : (Jvm.Cond.superclass "FormulaShapes$Pile" "java/lang/Object") ∈ lw_big := lw_bg (List.mem_of_getElem? (i := 354) (by decide +kernel)) (by decide +kernel)
theorem wd355 : (Jvm.Cond.methodLink "FormulaShapes" (242 : Nat) ({ cls := "FormulaShapes", name := "pileUp", desc := "(LFormulaShapes$Pile;II)V" } : Jvm.MethodName)) ∈ lw_big := lw_bg (List.mem_of_getElem? (i := 355) (by decide +kernel)) (by decide +kernel)
theorem wd356 : (Jvm.Cond.privateMethod ({ cls := "FormulaShapes", name := "pileUp", desc := "(LFormulaShapes$Pile;II)V" } : Jvm.MethodName)) ∈ lw_big := lw_bg (List.mem_of_getElem? (i := 356) (by decide +kernel)) (by decide +kernel)
theorem wd357 : (Jvm.Cond.instanceMethod ({ cls := "FormulaShapes", name := "pileUp", desc := "(LFormulaShapes$Pile;II)V" } : Jvm.MethodName)) ∈ lw_big := lw_bg (List.mem_of_getElem? (i := 357) (by decide +kernel)) (by decide +kernel)
theorem wd358 : (Jvm.Cond.code ({ cls := "FormulaShapes", name := "pileUp", desc := "(LFormulaShapes$Pile;II)V" } : Jvm.MethodName) prog_1_method_40_code (5 : Nat) (Option.none : Option Jvm.ClassFile.FieldType)) ∈ lw_big := lw_bg (List.mem_of_getElem? (i := 358) (by decide +kernel)) (by decide +kernel)
theorem wd359 : (Jvm.Cond.methodLink "FormulaShapes" (250 : Nat) ({ cls := "FormulaShapes$Pile", name := "put", desc := "(ILFormulaShapes$Box;)V" } : Jvm.MethodName)) ∈ lw_big := lw_bg (List.mem_of_getElem? (i := 359) (by decide +kernel)) (by decide +kernel)
theorem wd360 : (Jvm.Cond.instanceMethod ({ cls := "FormulaShapes$Pile", name := "put", desc := "(ILFormulaShapes$Box;)V" } : Jvm.MethodName)) ∈ lw_big := lw_bg (List.mem_of_getElem? (i := 360) (by decide +kernel)) (by decide +kernel)
theorem wd361 : (Jvm.Cond.selects "FormulaShapes$Pile" ({ cls := "FormulaShapes$Pile", name := "put", desc := "(ILFormulaShapes$Box;)V" } : Jvm.MethodName) ({ cls := "FormulaShapes$Pile", name := "put", desc := "(ILFormulaShapes$Box;)V" } : Jvm.MethodName)) ∈ lw_big := lw_bg (List.mem_of_getElem? (i := 361) (by decide +kernel)) (by decide +kernel)
theorem wd362 : (Jvm.Cond.code ({ cls := "FormulaShapes$Pile", name := "put", desc := "(ILFormulaShapes$Box;)V" } : Jvm.MethodName) prog_4_method_2_code (3 : Nat) (Option.none : Option Jvm.ClassFile.FieldType)) ∈ lw_big := lw_bg (List.mem_of_getElem? (i := 362) (by decide +kernel)) (by decide +kernel)
theorem wd363 : (Jvm.Cond.methodLink "FormulaShapes$Pile" (25 : Nat) ({ cls := "java/lang/Math", name := "max", desc := "(II)I" } : Jvm.MethodName)) ∈ lw_big := lw_bg (List.mem_of_getElem? (i := 363) (by decide +kernel)) (by decide +kernel)
theorem wd364 : (Jvm.Cond.static ({ cls := "java/lang/Math", name := "max", desc := "(II)I" } : Jvm.MethodName)) ∈ lw_big := lw_bg (List.mem_of_getElem? (i := 364) (by decide +kernel)) (by decide +kernel)
theorem wd365 : (Jvm.Cond.code ({ cls := "java/lang/Math", name := "max", desc := "(II)I" } : Jvm.MethodName) prog_11_method_65_code (2 : Nat) (Option.some Jvm.ClassFile.FieldType.int)) ∈ lw_big := lw_bg (List.mem_of_getElem? (i := 365) (by decide +kernel)) (by decide +kernel)
theorem wd366 : (Jvm.Cond.methodLink "FormulaShapes" (246 : Nat) ({ cls := "FormulaShapes$Pile", name := "asBox", desc := "()LFormulaShapes$Box;" } : Jvm.MethodName)) ∈ lw_big := lw_bg (List.mem_of_getElem? (i := 366) (by decide +kernel)) (by decide +kernel)
theorem wd367 : (Jvm.Cond.instanceMethod ({ cls := "FormulaShapes$Pile", name := "asBox", desc := "()LFormulaShapes$Box;" } : Jvm.MethodName)) ∈ lw_big := lw_bg (List.mem_of_getElem? (i := 367) (by decide +kernel)) (by decide +kernel)
theorem wd368 : (Jvm.Cond.selects "FormulaShapes$Pile" ({ cls := "FormulaShapes$Pile", name := "asBox", desc := "()LFormulaShapes$Box;" } : Jvm.MethodName) ({ cls := "FormulaShapes$Pile", name := "asBox", desc := "()LFormulaShapes$Box;" } : Jvm.MethodName)) ∈ lw_big := lw_bg (List.mem_of_getElem? (i := 368) (by decide +kernel)) (by decide +kernel)
theorem wd369 : (Jvm.Cond.code ({ cls := "FormulaShapes$Pile", name := "asBox", desc := "()LFormulaShapes$Box;" } : Jvm.MethodName) prog_4_method_3_code (1 : Nat) (Option.some (Jvm.ClassFile.FieldType.object "FormulaShapes$Box"))) ∈ lw_big := lw_bg (List.mem_of_getElem? (i := 369) (by decide +kernel)) (by decide +kernel)
theorem wd370 : (Jvm.Cond.classLink "FormulaShapes$Pile" (20 : Nat) "FormulaShapes$Box") ∈ lw_big := lw_bg (List.mem_of_getElem? (i := 370) (by decide +kernel)) (by decide +kernel)
theorem wd371 : (Jvm.Cond.methodLink "FormulaShapes$Pile" (40 : Nat) ({ cls := "FormulaShapes$Box", name := "<init>", desc := "(III[I)V" } : Jvm.MethodName)) ∈ lw_big := lw_bg (List.mem_of_getElem? (i := 371) (by decide +kernel)) (by decide +kernel)
theorem wd372 : (Jvm.Cond.methodLink "FormulaShapesLaw" (98 : Nat) ({ cls := "FormulaShapesLaw", name := "fraction", desc := "(LFormulaShapes;IIII[J)I" } : Jvm.MethodName)) ∈ lw_big := lw_bg (List.mem_of_getElem? (i := 372) (by decide +kernel)) (by decide +kernel)
theorem wd373 : (Jvm.Cond.static ({ cls := "FormulaShapesLaw", name := "fraction", desc := "(LFormulaShapes;IIII[J)I" } : Jvm.MethodName)) ∈ lw_big := lw_bg (List.mem_of_getElem? (i := 373) (by decide +kernel)) (by decide +kernel)
theorem wd374 : (Jvm.Cond.codeWith ({ cls := "FormulaShapesLaw", name := "fraction", desc := "(LFormulaShapes;IIII[J)I" } : Jvm.MethodName) method_9_code (7 : Nat) (Option.some Jvm.ClassFile.FieldType.int) [((0 : Nat), (14 : Nat), (17 : Nat), (13 : Nat)), ((0 : Nat), (14 : Nat), (21 : Nat), (15 : Nat)), ((0 : Nat), (14 : Nat), (25 : Nat), (24 : Nat))]) ∈ lw_big := lw_bg (List.mem_of_getElem? (i := 374) (by decide +kernel)) (by decide +kernel)
theorem wd375 : (Jvm.Cond.methodLink "FormulaShapesLaw" (38 : Nat) ({ cls := "FormulaShapes", name := "fraction", desc := "(IIII)I" } : Jvm.MethodName)) ∈ lw_big := lw_bg (List.mem_of_getElem? (i := 375) (by decide +kernel)) (by decide +kernel)
theorem wd376 : (Jvm.Cond.instanceMethod ({ cls := "FormulaShapes", name := "fraction", desc := "(IIII)I" } : Jvm.MethodName)) ∈ lw_big := lw_bg (List.mem_of_getElem? (i := 376) (by decide +kernel)) (by decide +kernel)
theorem wd377 : (Jvm.Cond.selects "FormulaShapes" ({ cls := "FormulaShapes", name := "fraction", desc := "(IIII)I" } : Jvm.MethodName) ({ cls := "FormulaShapes", name := "fraction", desc := "(IIII)I" } : Jvm.MethodName)) ∈ lw_big := lw_bg (List.mem_of_getElem? (i := 377) (by decide +kernel)) (by decide +kernel)
theorem wd378 : (Jvm.Cond.code ({ cls := "FormulaShapes", name := "fraction", desc := "(IIII)I" } : Jvm.MethodName) prog_1_method_8_code (5 : Nat) (Option.some Jvm.ClassFile.FieldType.int)) ∈ lw_big := lw_bg (List.mem_of_getElem? (i := 378) (by decide +kernel)) (by decide +kernel)
theorem wd379 : (Jvm.Cond.methodLink "FormulaShapes" (121 : Nat) ({ cls := "FormulaShapes", name := "needStyle", desc := "(I)V" } : Jvm.MethodName)) ∈ lw_big := lw_bg (List.mem_of_getElem? (i := 379) (by decide +kernel)) (by decide +kernel)
theorem wd380 : (Jvm.Cond.static ({ cls := "FormulaShapes", name := "needStyle", desc := "(I)V" } : Jvm.MethodName)) ∈ lw_big := lw_bg (List.mem_of_getElem? (i := 380) (by decide +kernel)) (by decide +kernel)
theorem wd381 : (Jvm.Cond.code ({ cls := "FormulaShapes", name := "needStyle", desc := "(I)V" } : Jvm.MethodName) prog_1_method_21_code (1 : Nat) (Option.none : Option Jvm.ClassFile.FieldType)) ∈ lw_big := lw_bg (List.mem_of_getElem? (i := 381) (by decide +kernel)) (by decide +kernel)
theorem wd382 : (Jvm.Cond.stringRef "FormulaShapes" (206 : Nat) "no such style") ∈ tables_1 := List.mem_of_getElem? (i := 382) (by decide +kernel)
theorem wd383 : (Jvm.Cond.methodLink "FormulaShapes" (124 : Nat) ({ cls := "FormulaShapes", name := "fractionWithLine", desc := "(IIII)LFormulaShapes$Box;" } : Jvm.MethodName)) ∈ lw_big := lw_bg (List.mem_of_getElem? (i := 383) (by decide +kernel)) (by decide +kernel)
theorem wd384 : (Jvm.Cond.privateMethod ({ cls := "FormulaShapes", name := "fractionWithLine", desc := "(IIII)LFormulaShapes$Box;" } : Jvm.MethodName)) ∈ lw_big := lw_bg (List.mem_of_getElem? (i := 384) (by decide +kernel)) (by decide +kernel)
theorem wd385 : (Jvm.Cond.instanceMethod ({ cls := "FormulaShapes", name := "fractionWithLine", desc := "(IIII)LFormulaShapes$Box;" } : Jvm.MethodName)) ∈ lw_big := lw_bg (List.mem_of_getElem? (i := 385) (by decide +kernel)) (by decide +kernel)
theorem wd386 : (Jvm.Cond.code ({ cls := "FormulaShapes", name := "fractionWithLine", desc := "(IIII)LFormulaShapes$Box;" } : Jvm.MethodName) prog_1_method_42_code (13 : Nat) (Option.some (Jvm.ClassFile.FieldType.object "FormulaShapes$Box"))) ∈ lw_big := lw_bg (List.mem_of_getElem? (i := 386) (by decide +kernel)) (by decide +kernel)
theorem wd387 : (Jvm.Cond.methodLink "FormulaShapes" (135 : Nat) ({ cls := "FormulaShapes", name := "valueOf", desc := "(II)I" } : Jvm.MethodName)) ∈ lw_big := lw_bg (List.mem_of_getElem? (i := 387) (by decide +kernel)) (by decide +kernel)
theorem wd388 : (Jvm.Cond.privateMethod ({ cls := "FormulaShapes", name := "valueOf", desc := "(II)I" } : Jvm.MethodName)) ∈ lw_big := lw_bg (List.mem_of_getElem? (i := 388) (by decide +kernel)) (by decide +kernel)
theorem wd389 : (Jvm.Cond.instanceMethod ({ cls := "FormulaShapes", name := "valueOf", desc := "(II)I" } : Jvm.MethodName)) ∈ lw_big := lw_bg (List.mem_of_getElem? (i := 389) (by decide +kernel)) (by decide +kernel)
theorem wd390 : (Jvm.Cond.code ({ cls := "FormulaShapes", name := "valueOf", desc := "(II)I" } : Jvm.MethodName) prog_1_method_31_code (4 : Nat) (Option.some Jvm.ClassFile.FieldType.int)) ∈ lw_big := lw_bg (List.mem_of_getElem? (i := 390) (by decide +kernel)) (by decide +kernel)
theorem wd391 : (Jvm.Cond.methodLink "FormulaShapes" (228 : Nat) ({ cls := "FormulaShapes", name := "half", desc := "(I)I" } : Jvm.MethodName)) ∈ lw_big := lw_bg (List.mem_of_getElem? (i := 391) (by decide +kernel)) (by decide +kernel)
theorem wd392 : (Jvm.Cond.static ({ cls := "FormulaShapes", name := "half", desc := "(I)I" } : Jvm.MethodName)) ∈ lw_big := lw_bg (List.mem_of_getElem? (i := 392) (by decide +kernel)) (by decide +kernel)
theorem wd393 : (Jvm.Cond.code ({ cls := "FormulaShapes", name := "half", desc := "(I)I" } : Jvm.MethodName) prog_1_method_32_code (1 : Nat) (Option.some Jvm.ClassFile.FieldType.int)) ∈ lw_big := lw_bg (List.mem_of_getElem? (i := 393) (by decide +kernel)) (by decide +kernel)
theorem wd394 : (Jvm.Cond.methodLink "FormulaShapes" (155 : Nat) ({ cls := "FormulaShapes", name := "depthOf", desc := "(I)I" } : Jvm.MethodName)) ∈ lw_big := lw_bg (List.mem_of_getElem? (i := 394) (by decide +kernel)) (by decide +kernel)
theorem wd395 : (Jvm.Cond.privateMethod ({ cls := "FormulaShapes", name := "depthOf", desc := "(I)I" } : Jvm.MethodName)) ∈ lw_big := lw_bg (List.mem_of_getElem? (i := 395) (by decide +kernel)) (by decide +kernel)
theorem wd396 : (Jvm.Cond.instanceMethod ({ cls := "FormulaShapes", name := "depthOf", desc := "(I)I" } : Jvm.MethodName)) ∈ lw_big := lw_bg (List.mem_of_getElem? (i := 396) (by decide +kernel)) (by decide +kernel)
theorem wd397 : (Jvm.Cond.code ({ cls := "FormulaShapes", name := "depthOf", desc := "(I)I" } : Jvm.MethodName) prog_1_method_29_code (2 : Nat) (Option.some Jvm.ClassFile.FieldType.int)) ∈ lw_big := lw_bg (List.mem_of_getElem? (i := 397) (by decide +kernel)) (by decide +kernel)
theorem wd398 : (Jvm.Cond.methodLink "FormulaShapes" (139 : Nat) ({ cls := "java/lang/Math", name := "max", desc := "(II)I" } : Jvm.MethodName)) ∈ lw_big := lw_bg (List.mem_of_getElem? (i := 398) (by decide +kernel)) (by decide +kernel)
theorem wd399 : (Jvm.Cond.methodLink "FormulaShapes" (152 : Nat) ({ cls := "FormulaShapes", name := "heightOf", desc := "(I)I" } : Jvm.MethodName)) ∈ lw_big := lw_bg (List.mem_of_getElem? (i := 399) (by decide +kernel)) (by decide +kernel)
theorem wd400 : (Jvm.Cond.privateMethod ({ cls := "FormulaShapes", name := "heightOf", desc := "(I)I" } : Jvm.MethodName)) ∈ lw_big := lw_bg (List.mem_of_getElem? (i := 400) (by decide +kernel)) (by decide +kernel)
theorem wd401 : (Jvm.Cond.instanceMethod ({ cls := "FormulaShapes", name := "heightOf", desc := "(I)I" } : Jvm.MethodName)) ∈ lw_big := lw_bg (List.mem_of_getElem? (i := 401) (by decide +kernel)) (by decide +kernel)
theorem wd402 : (Jvm.Cond.code ({ cls := "FormulaShapes", name := "heightOf", desc := "(I)I" } : Jvm.MethodName) prog_1_method_28_code (2 : Nat) (Option.some Jvm.ClassFile.FieldType.int)) ∈ lw_big := lw_bg (List.mem_of_getElem? (i := 402) (by decide +kernel)) (by decide +kernel)
theorem wd403 : (Jvm.Cond.methodLink "FormulaShapes" (162 : Nat) ({ cls := "FormulaShapes", name := "widthOf", desc := "(I)I" } : Jvm.MethodName)) ∈ lw_big := lw_bg (List.mem_of_getElem? (i := 403) (by decide +kernel)) (by decide +kernel)
theorem wd404 : (Jvm.Cond.privateMethod ({ cls := "FormulaShapes", name := "widthOf", desc := "(I)I" } : Jvm.MethodName)) ∈ lw_big := lw_bg (List.mem_of_getElem? (i := 404) (by decide +kernel)) (by decide +kernel)
theorem wd405 : (Jvm.Cond.instanceMethod ({ cls := "FormulaShapes", name := "widthOf", desc := "(I)I" } : Jvm.MethodName)) ∈ lw_big := lw_bg (List.mem_of_getElem? (i := 405) (by decide +kernel)) (by decide +kernel)
theorem wd406 : (Jvm.Cond.code ({ cls := "FormulaShapes", name := "widthOf", desc := "(I)I" } : Jvm.MethodName) prog_1_method_27_code (2 : Nat) (Option.some Jvm.ClassFile.FieldType.int)) ∈ lw_big := lw_bg (List.mem_of_getElem? (i := 406) (by decide +kernel)) (by decide +kernel)
theorem wd407 : (Jvm.Cond.methodLink "FormulaShapes" (254 : Nat) ({ cls := "FormulaShapes$Box", name := "<init>", desc := "(III[III)V" } : Jvm.MethodName)) ∈ lw_big := lw_bg (List.mem_of_getElem? (i := 407) (by decide +kernel)) (by decide +kernel)
theorem wd408 : (Jvm.Cond.methodLink "FormulaShapes" (128 : Nat) ({ cls := "FormulaShapes", name := "fractionBare", desc := "(III)LFormulaShapes$Box;" } : Jvm.MethodName)) ∈ lw_big := lw_bg (List.mem_of_getElem? (i := 408) (by decide +kernel)) (by decide +kernel)
theorem wd409 : (Jvm.Cond.privateMethod ({ cls := "FormulaShapes", name := "fractionBare", desc := "(III)LFormulaShapes$Box;" } : Jvm.MethodName)) ∈ lw_big := lw_bg (List.mem_of_getElem? (i := 409) (by decide +kernel)) (by decide +kernel)
theorem wd410 : (Jvm.Cond.instanceMethod ({ cls := "FormulaShapes", name := "fractionBare", desc := "(III)LFormulaShapes$Box;" } : Jvm.MethodName)) ∈ lw_big := lw_bg (List.mem_of_getElem? (i := 410) (by decide +kernel)) (by decide +kernel)
theorem wd411 : (Jvm.Cond.code ({ cls := "FormulaShapes", name := "fractionBare", desc := "(III)LFormulaShapes$Box;" } : Jvm.MethodName) prog_1_method_41_code (10 : Nat) (Option.some (Jvm.ClassFile.FieldType.object "FormulaShapes$Box"))) ∈ lw_big := lw_bg (List.mem_of_getElem? (i := 411) (by decide +kernel)) (by decide +kernel)
theorem wd412 : (Jvm.Cond.methodLink "FormulaShapesLaw" (102 : Nat) ({ cls := "FormulaShapesLaw", name := "root", desc := "(LFormulaShapes;III[J)I" } : Jvm.MethodName)) ∈ lw_big := lw_bg (List.mem_of_getElem? (i := 412) (by decide +kernel)) (by decide +kernel)
theorem wd413 : (Jvm.Cond.static ({ cls := "FormulaShapesLaw", name := "root", desc := "(LFormulaShapes;III[J)I" } : Jvm.MethodName)) ∈ lw_big := lw_bg (List.mem_of_getElem? (i := 413) (by decide +kernel)) (by decide +kernel)
theorem wd414 : (Jvm.Cond.codeWith ({ cls := "FormulaShapesLaw", name := "root", desc := "(LFormulaShapes;III[J)I" } : Jvm.MethodName) method_10_code (6 : Nat) (Option.some Jvm.ClassFile.FieldType.int) [((0 : Nat), (12 : Nat), (15 : Nat), (13 : Nat)), ((0 : Nat), (12 : Nat), (19 : Nat), (15 : Nat)), ((0 : Nat), (12 : Nat), (23 : Nat), (36 : Nat)), ((0 : Nat), (12 : Nat), (27 : Nat), (24 : Nat))]) ∈ lw_big := lw_bg (List.mem_of_getElem? (i := 414) (by decide +kernel)) (by decide +kernel)
theorem wd415 : (Jvm.Cond.methodLink "FormulaShapesLaw" (42 : Nat) ({ cls := "FormulaShapes", name := "root", desc := "(III)I" } : Jvm.MethodName)) ∈ lw_big := lw_bg (List.mem_of_getElem? (i := 415) (by decide +kernel)) (by decide +kernel)
theorem wd416 : (Jvm.Cond.instanceMethod ({ cls := "FormulaShapes", name := "root", desc := "(III)I" } : Jvm.MethodName)) ∈ lw_big := lw_bg (List.mem_of_getElem? (i := 416) (by decide +kernel)) (by decide +kernel)
theorem wd417 : (Jvm.Cond.selects "FormulaShapes" ({ cls := "FormulaShapes", name := "root", desc := "(III)I" } : Jvm.MethodName) ({ cls := "FormulaShapes", name := "root", desc := "(III)I" } : Jvm.MethodName)) ∈ lw_big := lw_bg (List.mem_of_getElem? (i := 417) (by decide +kernel)) (by decide +kernel)
theorem wd418 : (Jvm.Cond.code ({ cls := "FormulaShapes", name := "root", desc := "(III)I" } : Jvm.MethodName) prog_1_method_9_code (9 : Nat) (Option.some Jvm.ClassFile.FieldType.int)) ∈ lw_big := lw_bg (List.mem_of_getElem? (i := 418) (by decide +kernel)) (by decide +kernel)
theorem wd419 : (Jvm.Cond.methodLink "FormulaShapes" (132 : Nat) ({ cls := "FormulaShapes", name := "rootClearance", desc := "(I)I" } : Jvm.MethodName)) ∈ lw_big := lw_bg (List.mem_of_getElem? (i := 419) (by decide +kernel)) (by decide +kernel)
theorem wd420 : (Jvm.Cond.privateMethod ({ cls := "FormulaShapes", name := "rootClearance", desc := "(I)I" } : Jvm.MethodName)) ∈ lw_big := lw_bg (List.mem_of_getElem? (i := 420) (by decide +kernel)) (by decide +kernel)
theorem wd421 : (Jvm.Cond.instanceMethod ({ cls := "FormulaShapes", name := "rootClearance", desc := "(I)I" } : Jvm.MethodName)) ∈ lw_big := lw_bg (List.mem_of_getElem? (i := 421) (by decide +kernel)) (by decide +kernel)
theorem wd422 : (Jvm.Cond.code ({ cls := "FormulaShapes", name := "rootClearance", desc := "(I)I" } : Jvm.MethodName) prog_1_method_43_code (4 : Nat) (Option.some Jvm.ClassFile.FieldType.int)) ∈ lw_big := lw_bg (List.mem_of_getElem? (i := 422) (by decide +kernel)) (by decide +kernel)
theorem wd423 : (Jvm.Cond.methodLink "FormulaShapes" (257 : Nat) ({ cls := "java/lang/Math", name := "abs", desc := "(I)I" } : Jvm.MethodName)) ∈ lw_big := lw_bg (List.mem_of_getElem? (i := 423) (by decide +kernel)) (by decide +kernel)
theorem wd424 : (Jvm.Cond.static ({ cls := "java/lang/Math", name := "abs", desc := "(I)I" } : Jvm.MethodName)) ∈ lw_big := lw_bg (List.mem_of_getElem? (i := 424) (by decide +kernel)) (by decide +kernel)
theorem wd425 : (Jvm.Cond.code ({ cls := "java/lang/Math", name := "abs", desc := "(I)I" } : Jvm.MethodName) prog_11_method_59_code (1 : Nat) (Option.some Jvm.ClassFile.FieldType.int)) ∈ lw_big := lw_bg (List.mem_of_getElem? (i := 425) (by decide +kernel)) (by decide +kernel)
theorem wd426 : (Jvm.Cond.methodLink "FormulaShapes" (144 : Nat) ({ cls := "FormulaShapes", name := "rootShape", desc := "(IIIZ)LFormulaShapes$Box;" } : Jvm.MethodName)) ∈ lw_big := lw_bg (List.mem_of_getElem? (i := 426) (by decide +kernel)) (by decide +kernel)
theorem wd427 : (Jvm.Cond.privateMethod ({ cls := "FormulaShapes", name := "rootShape", desc := "(IIIZ)LFormulaShapes$Box;" } : Jvm.MethodName)) ∈ lw_big := lw_bg (List.mem_of_getElem? (i := 427) (by decide +kernel)) (by decide +kernel)
theorem wd428 : (Jvm.Cond.instanceMethod ({ cls := "FormulaShapes", name := "rootShape", desc := "(IIIZ)LFormulaShapes$Box;" } : Jvm.MethodName)) ∈ lw_big := lw_bg (List.mem_of_getElem? (i := 428) (by decide +kernel)) (by decide +kernel)
theorem wd429 : (Jvm.Cond.code ({ cls := "FormulaShapes", name := "rootShape", desc := "(IIIZ)LFormulaShapes$Box;" } : Jvm.MethodName) prog_1_method_44_code (11 : Nat) (Option.some (Jvm.ClassFile.FieldType.object "FormulaShapes$Box"))) ∈ lw_big := lw_bg (List.mem_of_getElem? (i := 429) (by decide +kernel)) (by decide +kernel)
theorem wd430 : (Jvm.Cond.methodLink "FormulaShapesLaw" (105 : Nat) ({ cls := "FormulaShapesLaw", name := "signs", desc := "(LFormulaShapes;IZIZII[J)I" } : Jvm.MethodName)) ∈ lw_big := lw_bg (List.mem_of_getElem? (i := 430) (by decide +kernel)) (by decide +kernel)
theorem wd431 : (Jvm.Cond.static ({ cls := "FormulaShapesLaw", name := "signs", desc := "(LFormulaShapes;IZIZII[J)I" } : Jvm.MethodName)) ∈ lw_big := lw_bg (List.mem_of_getElem? (i := 431) (by decide +kernel)) (by decide +kernel)
theorem wd432 : (Jvm.Cond.codeWith ({ cls := "FormulaShapesLaw", name := "signs", desc := "(LFormulaShapes;IZIZII[J)I" } : Jvm.MethodName) method_11_code (9 : Nat) (Option.some Jvm.ClassFile.FieldType.int) [((0 : Nat), (18 : Nat), (21 : Nat), (13 : Nat)), ((0 : Nat), (18 : Nat), (25 : Nat), (15 : Nat)), ((0 : Nat), (18 : Nat), (29 : Nat), (24 : Nat))]) ∈ lw_big := lw_bg (List.mem_of_getElem? (i := 432) (by decide +kernel)) (by decide +kernel)
theorem wd433 : (Jvm.Cond.methodLink "FormulaShapesLaw" (45 : Nat) ({ cls := "FormulaShapes", name := "signs", desc := "(IZIZII)I" } : Jvm.MethodName)) ∈ lw_big := lw_bg (List.mem_of_getElem? (i := 433) (by decide +kernel)) (by decide +kernel)
theorem wd434 : (Jvm.Cond.instanceMethod ({ cls := "FormulaShapes", name := "signs", desc := "(IZIZII)I" } : Jvm.MethodName)) ∈ lw_big := lw_bg (List.mem_of_getElem? (i := 434) (by decide +kernel)) (by decide +kernel)
theorem wd435 : (Jvm.Cond.selects "FormulaShapes" ({ cls := "FormulaShapes", name := "signs", desc := "(IZIZII)I" } : Jvm.MethodName) ({ cls := "FormulaShapes", name := "signs", desc := "(IZIZII)I" } : Jvm.MethodName)) ∈ lw_big := lw_bg (List.mem_of_getElem? (i := 435) (by decide +kernel)) (by decide +kernel)
theorem wd436 : (Jvm.Cond.code ({ cls := "FormulaShapes", name := "signs", desc := "(IZIZII)I" } : Jvm.MethodName) prog_1_method_10_code (10 : Nat) (Option.some Jvm.ClassFile.FieldType.int)) ∈ lw_big := lw_bg (List.mem_of_getElem? (i := 436) (by decide +kernel)) (by decide +kernel)
theorem wd437 : (Jvm.Cond.methodLink "FormulaShapes" (148 : Nat) ({ cls := "FormulaShapes", name := "needOneOf", desc := "(II)V" } : Jvm.MethodName)) ∈ lw_big := lw_bg (List.mem_of_getElem? (i := 437) (by decide +kernel)) (by decide +kernel)
theorem wd438 : (Jvm.Cond.static ({ cls := "FormulaShapes", name := "needOneOf", desc := "(II)V" } : Jvm.MethodName)) ∈ lw_big := lw_bg (List.mem_of_getElem? (i := 438) (by decide +kernel)) (by decide +kernel)
theorem wd439 : (Jvm.Cond.code ({ cls := "FormulaShapes", name := "needOneOf", desc := "(II)V" } : Jvm.MethodName) prog_1_method_23_code (2 : Nat) (Option.none : Option Jvm.ClassFile.FieldType)) ∈ lw_big := lw_bg (List.mem_of_getElem? (i := 439) (by decide +kernel)) (by decide +kernel)
theorem wd440 : (Jvm.Cond.stringRef "FormulaShapes" (210 : Nat) "one must be there, above or below") ∈ tables_1 := List.mem_of_getElem? (i := 440) (by decide +kernel)
theorem wd441 : (Jvm.Cond.methodLink "FormulaShapes" (158 : Nat) ({ cls := "FormulaShapes", name := "downAlone", desc := "(III)I" } : Jvm.MethodName)) ∈ lw_big := lw_bg (List.mem_of_getElem? (i := 441) (by decide +kernel)) (by decide +kernel)
theorem wd442 : (Jvm.Cond.privateMethod ({ cls := "FormulaShapes", name := "downAlone", desc := "(III)I" } : Jvm.MethodName)) ∈ lw_big := lw_bg (List.mem_of_getElem? (i := 442) (by decide +kernel)) (by decide +kernel)
theorem wd443 : (Jvm.Cond.instanceMethod ({ cls := "FormulaShapes", name := "downAlone", desc := "(III)I" } : Jvm.MethodName)) ∈ lw_big := lw_bg (List.mem_of_getElem? (i := 443) (by decide +kernel)) (by decide +kernel)
theorem wd444 : (Jvm.Cond.code ({ cls := "FormulaShapes", name := "downAlone", desc := "(III)I" } : Jvm.MethodName) prog_1_method_46_code (5 : Nat) (Option.some Jvm.ClassFile.FieldType.int)) ∈ lw_big := lw_bg (List.mem_of_getElem? (i := 444) (by decide +kernel)) (by decide +kernel)
theorem wd445 : (Jvm.Cond.methodLink "FormulaShapes" (260 : Nat) ({ cls := "FormulaShapes", name := "fourFifths", desc := "(I)I" } : Jvm.MethodName)) ∈ lw_big := lw_bg (List.mem_of_getElem? (i := 445) (by decide +kernel)) (by decide +kernel)
theorem wd446 : (Jvm.Cond.privateMethod ({ cls := "FormulaShapes", name := "fourFifths", desc := "(I)I" } : Jvm.MethodName)) ∈ lw_big := lw_bg (List.mem_of_getElem? (i := 446) (by decide +kernel)) (by decide +kernel)
theorem wd447 : (Jvm.Cond.instanceMethod ({ cls := "FormulaShapes", name := "fourFifths", desc := "(I)I" } : Jvm.MethodName)) ∈ lw_big := lw_bg (List.mem_of_getElem? (i := 447) (by decide +kernel)) (by decide +kernel)
theorem wd448 : (Jvm.Cond.code ({ cls := "FormulaShapes", name := "fourFifths", desc := "(I)I" } : Jvm.MethodName) prog_1_method_47_code (2 : Nat) (Option.some Jvm.ClassFile.FieldType.int)) ∈ lw_big := lw_bg (List.mem_of_getElem? (i := 448) (by decide +kernel)) (by decide +kernel)
theorem wd449 : (Jvm.Cond.methodLink "FormulaShapes" (165 : Nat) ({ cls := "FormulaShapes", name := "enclosing", desc := "(I[I)LFormulaShapes$Box;" } : Jvm.MethodName)) ∈ lw_big := lw_bg (List.mem_of_getElem? (i := 449) (by decide +kernel)) (by decide +kernel)
theorem wd450 : (Jvm.Cond.privateMethod ({ cls := "FormulaShapes", name := "enclosing", desc := "(I[I)LFormulaShapes$Box;" } : Jvm.MethodName)) ∈ lw_big := lw_bg (List.mem_of_getElem? (i := 450) (by decide +kernel)) (by decide +kernel)
theorem wd451 : (Jvm.Cond.instanceMethod ({ cls := "FormulaShapes", name := "enclosing", desc := "(I[I)LFormulaShapes$Box;" } : Jvm.MethodName)) ∈ lw_big := lw_bg (List.mem_of_getElem? (i := 451) (by decide +kernel)) (by decide +kernel)
theorem wd452 : (Jvm.Cond.code ({ cls := "FormulaShapes", name := "enclosing", desc := "(I[I)LFormulaShapes$Box;" } : Jvm.MethodName) prog_1_method_34_code (10 : Nat) (Option.some (Jvm.ClassFile.FieldType.object "FormulaShapes$Box"))) ∈ lw_big := lw_bg (List.mem_of_getElem? (i := 452) (by decide +kernel)) (by decide +kernel)
theorem wd453 : (Jvm.Cond.methodLink "FormulaShapes" (169 : Nat) ({ cls := "FormulaShapes", name := "upShift", desc := "(IZII)I" } : Jvm.MethodName)) ∈ lw_big := lw_bg (List.mem_of_getElem? (i := 453) (by decide +kernel)) (by decide +kernel)
theorem wd454 : (Jvm.Cond.privateMethod ({ cls := "FormulaShapes", name := "upShift", desc := "(IZII)I" } : Jvm.MethodName)) ∈ lw_big := lw_bg (List.mem_of_getElem? (i := 454) (by decide +kernel)) (by decide +kernel)
theorem wd455 : (Jvm.Cond.instanceMethod ({ cls := "FormulaShapes", name := "upShift", desc := "(IZII)I" } : Jvm.MethodName)) ∈ lw_big := lw_bg (List.mem_of_getElem? (i := 455) (by decide +kernel)) (by decide +kernel)
theorem wd456 : (Jvm.Cond.code ({ cls := "FormulaShapes", name := "upShift", desc := "(IZII)I" } : Jvm.MethodName) prog_1_method_45_code (7 : Nat) (Option.some Jvm.ClassFile.FieldType.int)) ∈ lw_big := lw_bg (List.mem_of_getElem? (i := 456) (by decide +kernel)) (by decide +kernel)
theorem wd457 : (Jvm.Cond.methodLink "FormulaShapes" (173 : Nat) ({ cls := "FormulaShapes", name := "signsOnBothSides", desc := "(IIIIII)LFormulaShapes$Box;" } : Jvm.MethodName)) ∈ lw_big := lw_bg (List.mem_of_getElem? (i := 457) (by decide +kernel)) (by decide +kernel)
theorem wd458 : (Jvm.Cond.privateMethod ({ cls := "FormulaShapes", name := "signsOnBothSides", desc := "(IIIIII)LFormulaShapes$Box;" } : Jvm.MethodName)) ∈ lw_big := lw_bg (List.mem_of_getElem? (i := 458) (by decide +kernel)) (by decide +kernel)
theorem wd459 : (Jvm.Cond.instanceMethod ({ cls := "FormulaShapes", name := "signsOnBothSides", desc := "(IIIIII)LFormulaShapes$Box;" } : Jvm.MethodName)) ∈ lw_big := lw_bg (List.mem_of_getElem? (i := 459) (by decide +kernel)) (by decide +kernel)
theorem wd460 : (Jvm.Cond.code ({ cls := "FormulaShapes", name := "signsOnBothSides", desc := "(IIIIII)LFormulaShapes$Box;" } : Jvm.MethodName) prog_1_method_48_code (11 : Nat) (Option.some (Jvm.ClassFile.FieldType.object "FormulaShapes$Box"))) ∈ lw_big := lw_bg (List.mem_of_getElem? (i := 460) (by decide +kernel)) (by decide +kernel)
theorem wd461 : (Jvm.Cond.methodLink "FormulaShapesLaw" (109 : Nat) ({ cls := "FormulaShapesLaw", name := "limits", desc := "(LFormulaShapes;IIII[J)I" } : Jvm.MethodName)) ∈ lw_big := lw_bg (List.mem_of_getElem? (i := 461) (by decide +kernel)) (by decide +kernel)
theorem wd462 : (Jvm.Cond.static ({ cls := "FormulaShapesLaw", name := "limits", desc := "(LFormulaShapes;IIII[J)I" } : Jvm.MethodName)) ∈ lw_big := lw_bg (List.mem_of_getElem? (i := 462) (by decide +kernel)) (by decide +kernel)
theorem wd463 : (Jvm.Cond.codeWith ({ cls := "FormulaShapesLaw", name := "limits", desc := "(LFormulaShapes;IIII[J)I" } : Jvm.MethodName) method_12_code (7 : Nat) (Option.some Jvm.ClassFile.FieldType.int) [((0 : Nat), (14 : Nat), (17 : Nat), (13 : Nat)), ((0 : Nat), (14 : Nat), (21 : Nat), (15 : Nat)), ((0 : Nat), (14 : Nat), (25 : Nat), (24 : Nat))]) ∈ lw_big := lw_bg (List.mem_of_getElem? (i := 463) (by decide +kernel)) (by decide +kernel)
theorem wd464 : (Jvm.Cond.methodLink "FormulaShapesLaw" (49 : Nat) ({ cls := "FormulaShapes", name := "limits", desc := "(IIII)I" } : Jvm.MethodName)) ∈ lw_big := lw_bg (List.mem_of_getElem? (i := 464) (by decide +kernel)) (by decide +kernel)
theorem wd465 : (Jvm.Cond.instanceMethod ({ cls := "FormulaShapes", name := "limits", desc := "(IIII)I" } : Jvm.MethodName)) ∈ lw_big := lw_bg (List.mem_of_getElem? (i := 465) (by decide +kernel)) (by decide +kernel)
theorem wd466 : (Jvm.Cond.selects "FormulaShapes" ({ cls := "FormulaShapes", name := "limits", desc := "(IIII)I" } : Jvm.MethodName) ({ cls := "FormulaShapes", name := "limits", desc := "(IIII)I" } : Jvm.MethodName)) ∈ lw_big := lw_bg (List.mem_of_getElem? (i := 466) (by decide +kernel)) (by decide +kernel)
theorem wd467 : (Jvm.Cond.code ({ cls := "FormulaShapes", name := "limits", desc := "(IIII)I" } : Jvm.MethodName) prog_1_method_11_code (5 : Nat) (Option.some Jvm.ClassFile.FieldType.int)) ∈ lw_big := lw_bg (List.mem_of_getElem? (i := 467) (by decide +kernel)) (by decide +kernel)
theorem wd468 : (Jvm.Cond.methodLink "FormulaShapes" (177 : Nat) ({ cls := "FormulaShapes", name := "limitsShape", desc := "(IIII)LFormulaShapes$Box;" } : Jvm.MethodName)) ∈ lw_big := lw_bg (List.mem_of_getElem? (i := 468) (by decide +kernel)) (by decide +kernel)
theorem wd469 : (Jvm.Cond.privateMethod ({ cls := "FormulaShapes", name := "limitsShape", desc := "(IIII)LFormulaShapes$Box;" } : Jvm.MethodName)) ∈ lw_big := lw_bg (List.mem_of_getElem? (i := 469) (by decide +kernel)) (by decide +kernel)
theorem wd470 : (Jvm.Cond.instanceMethod ({ cls := "FormulaShapes", name := "limitsShape", desc := "(IIII)LFormulaShapes$Box;" } : Jvm.MethodName)) ∈ lw_big := lw_bg (List.mem_of_getElem? (i := 470) (by decide +kernel)) (by decide +kernel)
theorem wd471 : (Jvm.Cond.code ({ cls := "FormulaShapes", name := "limitsShape", desc := "(IIII)LFormulaShapes$Box;" } : Jvm.MethodName) prog_1_method_49_code (13 : Nat) (Option.some (Jvm.ClassFile.FieldType.object "FormulaShapes$Box"))) ∈ lw_big := lw_bg (List.mem_of_getElem? (i := 471) (by decide +kernel)) (by decide +kernel)
theorem wd472 : (Jvm.Cond.methodLink "FormulaShapesLaw" (112 : Nat) ({ cls := "FormulaShapesLaw", name := "brackets", desc := "(LFormulaShapes;IIII[J)I" } : Jvm.MethodName)) ∈ lw_big := lw_bg (List.mem_of_getElem? (i := 472) (by decide +kernel)) (by decide +kernel)
theorem wd473 : (Jvm.Cond.static ({ cls := "FormulaShapesLaw", name := "brackets", desc := "(LFormulaShapes;IIII[J)I" } : Jvm.MethodName)) ∈ lw_big := lw_bg (List.mem_of_getElem? (i := 473) (by decide +kernel)) (by decide +kernel)
theorem wd474 : (Jvm.Cond.codeWith ({ cls := "FormulaShapesLaw", name := "brackets", desc := "(LFormulaShapes;IIII[J)I" } : Jvm.MethodName) method_13_code (7 : Nat) (Option.some Jvm.ClassFile.FieldType.int) [((0 : Nat), (14 : Nat), (17 : Nat), (13 : Nat)), ((0 : Nat), (14 : Nat), (21 : Nat), (15 : Nat)), ((0 : Nat), (14 : Nat), (25 : Nat), (36 : Nat)), ((0 : Nat), (14 : Nat), (29 : Nat), (24 : Nat))]) ∈ lw_big := lw_bg (List.mem_of_getElem? (i := 474) (by decide +kernel)) (by decide +kernel)
theorem wd475 : (Jvm.Cond.methodLink "FormulaShapesLaw" (52 : Nat) ({ cls := "FormulaShapes", name := "brackets", desc := "(IIII)I" } : Jvm.MethodName)) ∈ lw_big := lw_bg (List.mem_of_getElem? (i := 475) (by decide +kernel)) (by decide +kernel)
theorem wd476 : (Jvm.Cond.instanceMethod ({ cls := "FormulaShapes", name := "brackets", desc := "(IIII)I" } : Jvm.MethodName)) ∈ lw_big := lw_bg (List.mem_of_getElem? (i := 476) (by decide +kernel)) (by decide +kernel)
theorem wd477 : (Jvm.Cond.selects "FormulaShapes" ({ cls := "FormulaShapes", name := "brackets", desc := "(IIII)I" } : Jvm.MethodName) ({ cls := "FormulaShapes", name := "brackets", desc := "(IIII)I" } : Jvm.MethodName)) ∈ lw_big := lw_bg (List.mem_of_getElem? (i := 477) (by decide +kernel)) (by decide +kernel)
theorem wd478 : (Jvm.Cond.code ({ cls := "FormulaShapes", name := "brackets", desc := "(IIII)I" } : Jvm.MethodName) prog_1_method_12_code (14 : Nat) (Option.some Jvm.ClassFile.FieldType.int)) ∈ lw_big := lw_bg (List.mem_of_getElem? (i := 478) (by decide +kernel)) (by decide +kernel)
theorem wd479 : (Jvm.Cond.methodLink "FormulaShapes" (180 : Nat) ({ cls := "FormulaShapes", name := "bracketsLeast", desc := "(II)I" } : Jvm.MethodName)) ∈ lw_big := lw_bg (List.mem_of_getElem? (i := 479) (by decide +kernel)) (by decide +kernel)
theorem wd480 : (Jvm.Cond.privateMethod ({ cls := "FormulaShapes", name := "bracketsLeast", desc := "(II)I" } : Jvm.MethodName)) ∈ lw_big := lw_bg (List.mem_of_getElem? (i := 480) (by decide +kernel)) (by decide +kernel)
theorem wd481 : (Jvm.Cond.instanceMethod ({ cls := "FormulaShapes", name := "bracketsLeast", desc := "(II)I" } : Jvm.MethodName)) ∈ lw_big := lw_bg (List.mem_of_getElem? (i := 481) (by decide +kernel)) (by decide +kernel)
theorem wd482 : (Jvm.Cond.code ({ cls := "FormulaShapes", name := "bracketsLeast", desc := "(II)I" } : Jvm.MethodName) prog_1_method_50_code (5 : Nat) (Option.some Jvm.ClassFile.FieldType.int)) ∈ lw_big := lw_bg (List.mem_of_getElem? (i := 482) (by decide +kernel)) (by decide +kernel)
theorem wd483 : (Jvm.Cond.methodLink "FormulaShapes" (183 : Nat) ({ cls := "FormulaShapes", name := "onAxis", desc := "(II)I" } : Jvm.MethodName)) ∈ lw_big := lw_bg (List.mem_of_getElem? (i := 483) (by decide +kernel)) (by decide +kernel)
theorem wd484 : (Jvm.Cond.privateMethod ({ cls := "FormulaShapes", name := "onAxis", desc := "(II)I" } : Jvm.MethodName)) ∈ lw_big := lw_bg (List.mem_of_getElem? (i := 484) (by decide +kernel)) (by decide +kernel)
theorem wd485 : (Jvm.Cond.instanceMethod ({ cls := "FormulaShapes", name := "onAxis", desc := "(II)I" } : Jvm.MethodName)) ∈ lw_big := lw_bg (List.mem_of_getElem? (i := 485) (by decide +kernel)) (by decide +kernel)
theorem wd486 : (Jvm.Cond.code ({ cls := "FormulaShapes", name := "onAxis", desc := "(II)I" } : Jvm.MethodName) prog_1_method_33_code (3 : Nat) (Option.some Jvm.ClassFile.FieldType.int)) ∈ lw_big := lw_bg (List.mem_of_getElem? (i := 486) (by decide +kernel)) (by decide +kernel)
theorem wd487 : (Jvm.Cond.methodLink "FormulaShapesLaw" (115 : Nat) ({ cls := "FormulaShapesLaw", name := "row", desc := "(LFormulaShapes;III[J)I" } : Jvm.MethodName)) ∈ lw_big := lw_bg (List.mem_of_getElem? (i := 487) (by decide +kernel)) (by decide +kernel)
theorem wd488 : (Jvm.Cond.static ({ cls := "FormulaShapesLaw", name := "row", desc := "(LFormulaShapes;III[J)I" } : Jvm.MethodName)) ∈ lw_big := lw_bg (List.mem_of_getElem? (i := 488) (by decide +kernel)) (by decide +kernel)
theorem wd489 : (Jvm.Cond.codeWith ({ cls := "FormulaShapesLaw", name := "row", desc := "(LFormulaShapes;III[J)I" } : Jvm.MethodName) method_14_code (6 : Nat) (Option.some Jvm.ClassFile.FieldType.int) [((0 : Nat), (12 : Nat), (15 : Nat), (13 : Nat)), ((0 : Nat), (12 : Nat), (19 : Nat), (15 : Nat)), ((0 : Nat), (12 : Nat), (23 : Nat), (24 : Nat))]) ∈ lw_big := lw_bg (List.mem_of_getElem? (i := 489) (by decide +kernel)) (by decide +kernel)
theorem wd490 : (Jvm.Cond.methodLink "FormulaShapesLaw" (55 : Nat) ({ cls := "FormulaShapes", name := "row", desc := "(III)I" } : Jvm.MethodName)) ∈ lw_big := lw_bg (List.mem_of_getElem? (i := 490) (by decide +kernel)) (by decide +kernel)
theorem wd491 : (Jvm.Cond.instanceMethod ({ cls := "FormulaShapes", name := "row", desc := "(III)I" } : Jvm.MethodName)) ∈ lw_big := lw_bg (List.mem_of_getElem? (i := 491) (by decide +kernel)) (by decide +kernel)
theorem wd492 : (Jvm.Cond.selects "FormulaShapes" ({ cls := "FormulaShapes", name := "row", desc := "(III)I" } : Jvm.MethodName) ({ cls := "FormulaShapes", name := "row", desc := "(III)I" } : Jvm.MethodName)) ∈ lw_big := lw_bg (List.mem_of_getElem? (i := 492) (by decide +kernel)) (by decide +kernel)
theorem wd493 : (Jvm.Cond.code ({ cls := "FormulaShapes", name := "row", desc := "(III)I" } : Jvm.MethodName) prog_1_method_13_code (5 : Nat) (Option.some Jvm.ClassFile.FieldType.int)) ∈ lw_big := lw_bg (List.mem_of_getElem? (i := 493) (by decide +kernel)) (by decide +kernel)
theorem wd494 : (Jvm.Cond.methodLink "FormulaShapesLaw" (118 : Nat) ({ cls := "FormulaShapesLaw", name := "centre", desc := "(LFormulaShapes;II[J)I" } : Jvm.MethodName)) ∈ lw_big := lw_bg (List.mem_of_getElem? (i := 494) (by decide +kernel)) (by decide +kernel)
theorem wd495 : (Jvm.Cond.static ({ cls := "FormulaShapesLaw", name := "centre", desc := "(LFormulaShapes;II[J)I" } : Jvm.MethodName)) ∈ lw_big := lw_bg (List.mem_of_getElem? (i := 495) (by decide +kernel)) (by decide +kernel)
theorem wd496 : (Jvm.Cond.codeWith ({ cls := "FormulaShapesLaw", name := "centre", desc := "(LFormulaShapes;II[J)I" } : Jvm.MethodName) method_15_code (5 : Nat) (Option.some Jvm.ClassFile.FieldType.int) [((0 : Nat), (10 : Nat), (13 : Nat), (13 : Nat)), ((0 : Nat), (10 : Nat), (17 : Nat), (15 : Nat)), ((0 : Nat), (10 : Nat), (21 : Nat), (24 : Nat))]) ∈ lw_big := lw_bg (List.mem_of_getElem? (i := 496) (by decide +kernel)) (by decide +kernel)
theorem wd497 : (Jvm.Cond.methodLink "FormulaShapesLaw" (58 : Nat) ({ cls := "FormulaShapes", name := "centre", desc := "(II)I" } : Jvm.MethodName)) ∈ lw_big := lw_bg (List.mem_of_getElem? (i := 497) (by decide +kernel)) (by decide +kernel)
theorem wd498 : (Jvm.Cond.instanceMethod ({ cls := "FormulaShapes", name := "centre", desc := "(II)I" } : Jvm.MethodName)) ∈ lw_big := lw_bg (List.mem_of_getElem? (i := 498) (by decide +kernel)) (by decide +kernel)
theorem wd499 : (Jvm.Cond.selects "FormulaShapes" ({ cls := "FormulaShapes", name := "centre", desc := "(II)I" } : Jvm.MethodName) ({ cls := "FormulaShapes", name := "centre", desc := "(II)I" } : Jvm.MethodName)) ∈ lw_big := lw_bg (List.mem_of_getElem? (i := 499) (by decide +kernel)) (by decide +kernel)
theorem wd500 : (Jvm.Cond.code ({ cls := "FormulaShapes", name := "centre", desc := "(II)I" } : Jvm.MethodName) prog_1_method_14_code (3 : Nat) (Option.some Jvm.ClassFile.FieldType.int)) ∈ lw_big := lw_bg (List.mem_of_getElem? (i := 500) (by decide +kernel)) (by decide +kernel)
theorem wd501 : (Jvm.Cond.methodLink "FormulaShapesLaw" (121 : Nat) ({ cls := "FormulaShapesLaw", name := "told", desc := "(LFormulaShapes;II[J)I" } : Jvm.MethodName)) ∈ lw_big := lw_bg (List.mem_of_getElem? (i := 501) (by decide +kernel)) (by decide +kernel)
theorem wd502 : (Jvm.Cond.static ({ cls := "FormulaShapesLaw", name := "told", desc := "(LFormulaShapes;II[J)I" } : Jvm.MethodName)) ∈ lw_big := lw_bg (List.mem_of_getElem? (i := 502) (by decide +kernel)) (by decide +kernel)
theorem wd503 : (Jvm.Cond.codeWith ({ cls := "FormulaShapesLaw", name := "told", desc := "(LFormulaShapes;II[J)I" } : Jvm.MethodName) method_16_code (5 : Nat) (Option.some Jvm.ClassFile.FieldType.int) [((0 : Nat), (10 : Nat), (13 : Nat), (13 : Nat))]) ∈ lw_big := lw_bg (List.mem_of_getElem? (i := 503) (by decide +kernel)) (by decide +kernel)
theorem wd504 : (Jvm.Cond.methodLink "FormulaShapesLaw" (61 : Nat) ({ cls := "FormulaShapes", name := "told", desc := "(II)I" } : Jvm.MethodName)) ∈ lw_big := lw_bg (List.mem_of_getElem? (i := 504) (by decide +kernel)) (by decide +kernel)
theorem wd505 : (Jvm.Cond.instanceMethod ({ cls := "FormulaShapes", name := "told", desc := "(II)I" } : Jvm.MethodName)) ∈ lw_big := lw_bg (List.mem_of_getElem? (i := 505) (by decide +kernel)) (by decide +kernel)
theorem wd506 : (Jvm.Cond.selects "FormulaShapes" ({ cls := "FormulaShapes", name := "told", desc := "(II)I" } : Jvm.MethodName) ({ cls := "FormulaShapes", name := "told", desc := "(II)I" } : Jvm.MethodName)) ∈ lw_big := lw_bg (List.mem_of_getElem? (i := 506) (by decide +kernel)) (by decide +kernel)
theorem wd507 : (Jvm.Cond.code ({ cls := "FormulaShapes", name := "told", desc := "(II)I" } : Jvm.MethodName) prog_1_method_15_code (3 : Nat) (Option.some Jvm.ClassFile.FieldType.int)) ∈ lw_big := lw_bg (List.mem_of_getElem? (i := 507) (by decide +kernel)) (by decide +kernel)
theorem wd508 : (Jvm.Cond.stringRef "FormulaShapes" (189 : Nat) "what is 0 to 3") ∈ tables_1 := List.mem_of_getElem? (i := 508) (by decide +kernel)
theorem wd509 : (Jvm.Cond.methodLink "FormulaShapesLaw" (124 : Nat) ({ cls := "FormulaShapesLaw", name := "part", desc := "(LFormulaShapes;III[J)I" } : Jvm.MethodName)) ∈ lw_big := lw_bg (List.mem_of_getElem? (i := 509) (by decide +kernel)) (by decide +kernel)
theorem wd510 : (Jvm.Cond.static ({ cls := "FormulaShapesLaw", name := "part", desc := "(LFormulaShapes;III[J)I" } : Jvm.MethodName)) ∈ lw_big := lw_bg (List.mem_of_getElem? (i := 510) (by decide +kernel)) (by decide +kernel)
theorem wd511 : (Jvm.Cond.codeWith ({ cls := "FormulaShapesLaw", name := "part", desc := "(LFormulaShapes;III[J)I" } : Jvm.MethodName) method_17_code (6 : Nat) (Option.some Jvm.ClassFile.FieldType.int) [((0 : Nat), (12 : Nat), (15 : Nat), (13 : Nat))]) ∈ lw_big := lw_bg (List.mem_of_getElem? (i := 511) (by decide +kernel)) (by decide +kernel)
theorem wd512 : (Jvm.Cond.methodLink "FormulaShapesLaw" (64 : Nat) ({ cls := "FormulaShapes", name := "part", desc := "(III)I" } : Jvm.MethodName)) ∈ lw_big := lw_bg (List.mem_of_getElem? (i := 512) (by decide +kernel)) (by decide +kernel)
theorem wd513 : (Jvm.Cond.instanceMethod ({ cls := "FormulaShapes", name := "part", desc := "(III)I" } : Jvm.MethodName)) ∈ lw_big := lw_bg (List.mem_of_getElem? (i := 513) (by decide +kernel)) (by decide +kernel)
theorem wd514 : (Jvm.Cond.selects "FormulaShapes" ({ cls := "FormulaShapes", name := "part", desc := "(III)I" } : Jvm.MethodName) ({ cls := "FormulaShapes", name := "part", desc := "(III)I" } : Jvm.MethodName)) ∈ lw_big := lw_bg (List.mem_of_getElem? (i := 514) (by decide +kernel)) (by decide +kernel)
theorem wd515 : (Jvm.Cond.code ({ cls := "FormulaShapes", name := "part", desc := "(III)I" } : Jvm.MethodName) prog_1_method_16_code (6 : Nat) (Option.some Jvm.ClassFile.FieldType.int)) ∈ lw_big := lw_bg (List.mem_of_getElem? (i := 515) (by decide +kernel)) (by decide +kernel)
theorem wd516 : (Jvm.Cond.stringRef "FormulaShapes" (191 : Nat) "no such part") ∈ tables_1 := List.mem_of_getElem? (i := 516) (by decide +kernel)
theorem wd517 : (Jvm.Cond.stringRef "FormulaShapes" (193 : Nat) "what is 0 to 5") ∈ tables_1 := List.mem_of_getElem? (i := 517) (by decide +kernel)
theorem wd518 : (Jvm.Cond.classLink "FormulaShapesLaw" (68 : Nat) "FormulaShapesModel") ∈ lw_big := lw_bg (List.mem_of_getElem? (i := 518) (by decide +kernel)) (by decide +kernel)
theorem wd519 : (Jvm.Cond.instantiable "FormulaShapesModel" (21 : Nat)) ∈ lw_big := lw_bg (List.mem_of_getElem? (i := 519) (by decide +kernel)) (by decide +kernel)
theorem wd520 : (Jvm.Cond.methodLink "FormulaShapesLaw" (70 : Nat) ({ cls := "FormulaShapesModel", name := "<init>", desc := "()V" } : Jvm.MethodName)) ∈ lw_big := lw_bg (List.mem_of_getElem? (i := 520) (by decide +kernel)) (by decide +kernel)
theorem wd521 : (Jvm.Cond.instanceMethod ({ cls := "FormulaShapesModel", name := "<init>", desc := "()V" } : Jvm.MethodName)) ∈ lw_big := lw_bg (List.mem_of_getElem? (i := 521) (by decide +kernel)) (by decide +kernel)
theorem wd522 : (Jvm.Cond.code ({ cls := "FormulaShapesModel", name := "<init>", desc := "()V" } : Jvm.MethodName) prog_6_method_1_code (1 : Nat) (Option.none : Option Jvm.ClassFile.FieldType)) ∈ lw_big := lw_bg (List.mem_of_getElem? (i := 522) (by decide +kernel)) (by decide +kernel)
theorem wd523 : (Jvm.Cond.methodLink "FormulaShapesModel" (1 : Nat) ({ cls := "java/lang/Object", name := "<init>", desc := "()V" } : Jvm.MethodName)) ∈ lw_big := lw_bg (List.mem_of_getElem? (i := 523) (by decide +kernel)) (by decide +kernel)
theorem wd524 : (Jvm.Cond.fieldLink "FormulaShapesModel" (60 : Nat) "FormulaShapesModel" "thrown" "I") ∈ lw_big := lw_bg (List.mem_of_getElem? (i := 524) (by decide +kernel)) (by decide +kernel)
theorem wd525 : (Jvm.Cond.fieldLink "FormulaShapesModel" (7 : Nat) "FormulaShapesModel" "parameters" "[I") ∈ lw_big := lw_bg (List.mem_of_getElem? (i := 525) (by decide +kernel)) (by decide +kernel)
theorem wd526 : (Jvm.Cond.fieldLink "FormulaShapesModel" (76 : Nat) "FormulaShapesModel" "space" "I") ∈ lw_big := lw_bg (List.mem_of_getElem? (i := 526) (by decide +kernel)) (by decide +kernel)
theorem wd527 : (Jvm.Cond.fieldLink "FormulaShapesModel" (79 : Nat) "FormulaShapesModel" "less" "I") ∈ lw_big := lw_bg (List.mem_of_getElem? (i := 527) (by decide +kernel)) (by decide +kernel)
theorem wd528 : (Jvm.Cond.fieldLink "FormulaShapesModel" (56 : Nat) "FormulaShapesModel" "boxes" "I") ∈ lw_big := lw_bg (List.mem_of_getElem? (i := 528) (by decide +kernel)) (by decide +kernel)
theorem wd529 : (Jvm.Cond.fieldLink "FormulaShapesModel" (13 : Nat) "FormulaShapesModel" "widths" "[I") ∈ lw_big := lw_bg (List.mem_of_getElem? (i := 529) (by decide +kernel)) (by decide +kernel)
theorem wd530 : (Jvm.Cond.fieldLink "FormulaShapesModel" (16 : Nat) "FormulaShapesModel" "heights" "[I") ∈ lw_big := lw_bg (List.mem_of_getElem? (i := 530) (by decide +kernel)) (by decide +kernel)
theorem wd531 : (Jvm.Cond.fieldLink "FormulaShapesModel" (19 : Nat) "FormulaShapesModel" "depths" "[I") ∈ lw_big := lw_bg (List.mem_of_getElem? (i := 531) (by decide +kernel)) (by decide +kernel)
theorem wd532 : (Jvm.Cond.fieldLink "FormulaShapesModel" (22 : Nat) "FormulaShapesModel" "begins" "[I") ∈ lw_big := lw_bg (List.mem_of_getElem? (i := 532) (by decide +kernel)) (by decide +kernel)
theorem wd533 : (Jvm.Cond.fieldLink "FormulaShapesModel" (25 : Nat) "FormulaShapesModel" "many" "[I") ∈ lw_big := lw_bg (List.mem_of_getElem? (i := 533) (by decide +kernel)) (by decide +kernel)
theorem wd534 : (Jvm.Cond.fieldLink "FormulaShapesModel" (28 : Nat) "FormulaShapesModel" "ruleWidth" "[I") ∈ lw_big := lw_bg (List.mem_of_getElem? (i := 534) (by decide +kernel)) (by decide +kernel)
theorem wd535 : (Jvm.Cond.fieldLink "FormulaShapesModel" (31 : Nat) "FormulaShapesModel" "ruleHeight" "[I") ∈ lw_big := lw_bg (List.mem_of_getElem? (i := 535) (by decide +kernel)) (by decide +kernel)
theorem wd536 : (Jvm.Cond.fieldLink "FormulaShapesModel" (82 : Nat) "FormulaShapesModel" "parts" "I") ∈ lw_big := lw_bg (List.mem_of_getElem? (i := 536) (by decide +kernel)) (by decide +kernel)
theorem wd537 : (Jvm.Cond.fieldLink "FormulaShapesModel" (34 : Nat) "FormulaShapesModel" "partBox" "[I") ∈ lw_big := lw_bg (List.mem_of_getElem? (i := 537) (by decide +kernel)) (by decide +kernel)
theorem wd538 : (Jvm.Cond.fieldLink "FormulaShapesModel" (37 : Nat) "FormulaShapesModel" "partX" "[I") ∈ lw_big := lw_bg (List.mem_of_getElem? (i := 538) (by decide +kernel)) (by decide +kernel)
theorem wd539 : (Jvm.Cond.fieldLink "FormulaShapesModel" (40 : Nat) "FormulaShapesModel" "partY" "[I") ∈ lw_big := lw_bg (List.mem_of_getElem? (i := 539) (by decide +kernel)) (by decide +kernel)
theorem wd540 : (Jvm.Cond.fieldLink "FormulaShapesModel" (43 : Nat) "FormulaShapesModel" "signs" "[I") ∈ lw_big := lw_bg (List.mem_of_getElem? (i := 540) (by decide +kernel)) (by decide +kernel)
theorem wd541 : (Jvm.Cond.fieldLink "FormulaShapesModel" (46 : Nat) "FormulaShapesModel" "signBox" "[I") ∈ lw_big := lw_bg (List.mem_of_getElem? (i := 541) (by decide +kernel)) (by decide +kernel)
theorem wd542 : (Jvm.Cond.fieldLink "FormulaShapesModel" (49 : Nat) "FormulaShapesModel" "hasPieces" "[Z") ∈ lw_big := lw_bg (List.mem_of_getElem? (i := 542) (by decide +kernel)) (by decide +kernel)
theorem wd543 : (Jvm.Cond.fieldLink "FormulaShapesModel" (53 : Nat) "FormulaShapesModel" "piece" "[I") ∈ lw_big := lw_bg (List.mem_of_getElem? (i := 543) (by decide +kernel)) (by decide +kernel)
theorem wd544 : (Jvm.Cond.fieldLink "FormulaShapesModel" (71 : Nat) "FormulaShapesModel" "size" "I") ∈ lw_big := lw_bg (List.mem_of_getElem? (i := 544) (by decide +kernel)) (by decide +kernel)
theorem wd545 : (Jvm.Cond.lays "FormulaShapesModel" "FormulaShapesModel" "thrown" "I") ∈ lw_big := lw_bg (List.mem_of_getElem? (i := 545) (by decide +kernel)) (by decide +kernel)
theorem wd546 : (Jvm.Cond.soleField "FormulaShapesModel" "thrown") ∈ lw_big := lw_bg (List.mem_of_getElem? (i := 546) (by decide +kernel)) (by decide +kernel)
theorem wd547 : (Jvm.Cond.laysFinal "FormulaShapesModel" "FormulaShapesModel" "parameters" "[I") ∈ lw_big := lw_bg (List.mem_of_getElem? (i := 547) (by decide +kernel)) (by decide +kernel)
theorem wd548 : (Jvm.Cond.soleField "FormulaShapesModel" "parameters") ∈ lw_big := lw_bg (List.mem_of_getElem? (i := 548) (by decide +kernel)) (by decide +kernel)
theorem wd549 : (Jvm.Cond.lays "FormulaShapesModel" "FormulaShapesModel" "space" "I") ∈ lw_big := lw_bg (List.mem_of_getElem? (i := 549) (by decide +kernel)) (by decide +kernel)
theorem wd550 : (Jvm.Cond.soleField "FormulaShapesModel" "space") ∈ lw_big := lw_bg (List.mem_of_getElem? (i := 550) (by decide +kernel)) (by decide +kernel)
theorem wd551 : (Jvm.Cond.lays "FormulaShapesModel" "FormulaShapesModel" "less" "I") ∈ lw_big := lw_bg (List.mem_of_getElem? (i := 551) (by decide +kernel)) (by decide +kernel)
theorem wd552 : (Jvm.Cond.soleField "FormulaShapesModel" "less") ∈ lw_big := lw_bg (List.mem_of_getElem? (i := 552) (by decide +kernel)) (by decide +kernel)
theorem wd553 : (Jvm.Cond.lays "FormulaShapesModel" "FormulaShapesModel" "boxes" "I") ∈ lw_big := lw_bg (List.mem_of_getElem? (i := 553) (by decide +kernel)) (by decide +kernel)
theorem wd554 : (Jvm.Cond.soleField "FormulaShapesModel" "boxes") ∈ lw_big := lw_bg (List.mem_of_getElem? (i := 554) (by decide +kernel)) (by decide +kernel)
theorem wd555 : (Jvm.Cond.laysFinal "FormulaShapesModel" "FormulaShapesModel" "widths" "[I") ∈ lw_big := lw_bg (List.mem_of_getElem? (i := 555) (by decide +kernel)) (by decide +kernel)
theorem wd556 : (Jvm.Cond.soleField "FormulaShapesModel" "widths") ∈ lw_big := lw_bg (List.mem_of_getElem? (i := 556) (by decide +kernel)) (by decide +kernel)
theorem wd557 : (Jvm.Cond.laysFinal "FormulaShapesModel" "FormulaShapesModel" "heights" "[I") ∈ lw_big := lw_bg (List.mem_of_getElem? (i := 557) (by decide +kernel)) (by decide +kernel)
theorem wd558 : (Jvm.Cond.soleField "FormulaShapesModel" "heights") ∈ lw_big := lw_bg (List.mem_of_getElem? (i := 558) (by decide +kernel)) (by decide +kernel)
theorem wd559 : (Jvm.Cond.laysFinal "FormulaShapesModel" "FormulaShapesModel" "depths" "[I") ∈ lw_big := lw_bg (List.mem_of_getElem? (i := 559) (by decide +kernel)) (by decide +kernel)
theorem wd560 : (Jvm.Cond.soleField "FormulaShapesModel" "depths") ∈ lw_big := lw_bg (List.mem_of_getElem? (i := 560) (by decide +kernel)) (by decide +kernel)
theorem wd561 : (Jvm.Cond.laysFinal "FormulaShapesModel" "FormulaShapesModel" "begins" "[I") ∈ lw_big := lw_bg (List.mem_of_getElem? (i := 561) (by decide +kernel)) (by decide +kernel)
theorem wd562 : (Jvm.Cond.soleField "FormulaShapesModel" "begins") ∈ lw_big := lw_bg (List.mem_of_getElem? (i := 562) (by decide +kernel)) (by decide +kernel)
theorem wd563 : (Jvm.Cond.laysFinal "FormulaShapesModel" "FormulaShapesModel" "many" "[I") ∈ lw_big := lw_bg (List.mem_of_getElem? (i := 563) (by decide +kernel)) (by decide +kernel)
theorem wd564 : (Jvm.Cond.soleField "FormulaShapesModel" "many") ∈ lw_big := lw_bg (List.mem_of_getElem? (i := 564) (by decide +kernel)) (by decide +kernel)
theorem wd565 : (Jvm.Cond.laysFinal "FormulaShapesModel" "FormulaShapesModel" "ruleWidth" "[I") ∈ lw_big := lw_bg (List.mem_of_getElem? (i := 565) (by decide +kernel)) (by decide +kernel)
theorem wd566 : (Jvm.Cond.soleField "FormulaShapesModel" "ruleWidth") ∈ lw_big := lw_bg (List.mem_of_getElem? (i := 566) (by decide +kernel)) (by decide +kernel)
theorem wd567 : (Jvm.Cond.laysFinal "FormulaShapesModel" "FormulaShapesModel" "ruleHeight" "[I") ∈ lw_big := lw_bg (List.mem_of_getElem? (i := 567) (by decide +kernel)) (by decide +kernel)
theorem wd568 : (Jvm.Cond.soleField "FormulaShapesModel" "ruleHeight") ∈ lw_big := lw_bg (List.mem_of_getElem? (i := 568) (by decide +kernel)) (by decide +kernel)
theorem wd569 : (Jvm.Cond.lays "FormulaShapesModel" "FormulaShapesModel" "parts" "I") ∈ lw_big := lw_bg (List.mem_of_getElem? (i := 569) (by decide +kernel)) (by decide +kernel)
theorem wd570 : (Jvm.Cond.soleField "FormulaShapesModel" "parts") ∈ lw_big := lw_bg (List.mem_of_getElem? (i := 570) (by decide +kernel)) (by decide +kernel)
theorem wd571 : (Jvm.Cond.laysFinal "FormulaShapesModel" "FormulaShapesModel" "partBox" "[I") ∈ lw_big := lw_bg (List.mem_of_getElem? (i := 571) (by decide +kernel)) (by decide +kernel)
theorem wd572 : (Jvm.Cond.soleField "FormulaShapesModel" "partBox") ∈ lw_big := lw_bg (List.mem_of_getElem? (i := 572) (by decide +kernel)) (by decide +kernel)
theorem wd573 : (Jvm.Cond.laysFinal "FormulaShapesModel" "FormulaShapesModel" "partX" "[I") ∈ lw_big := lw_bg (List.mem_of_getElem? (i := 573) (by decide +kernel)) (by decide +kernel)
theorem wd574 : (Jvm.Cond.soleField "FormulaShapesModel" "partX") ∈ lw_big := lw_bg (List.mem_of_getElem? (i := 574) (by decide +kernel)) (by decide +kernel)
theorem wd575 : (Jvm.Cond.laysFinal "FormulaShapesModel" "FormulaShapesModel" "partY" "[I") ∈ lw_big := lw_bg (List.mem_of_getElem? (i := 575) (by decide +kernel)) (by decide +kernel)
theorem wd576 : (Jvm.Cond.soleField "FormulaShapesModel" "partY") ∈ lw_big := lw_bg (List.mem_of_getElem? (i := 576) (by decide +kernel)) (by decide +kernel)
theorem wd577 : (Jvm.Cond.laysFinal "FormulaShapesModel" "FormulaShapesModel" "signs" "[I") ∈ lw_big := lw_bg (List.mem_of_getElem? (i := 577) (by decide +kernel)) (by decide +kernel)
theorem wd578 : (Jvm.Cond.soleField "FormulaShapesModel" "signs") ∈ lw_big := lw_bg (List.mem_of_getElem? (i := 578) (by decide +kernel)) (by decide +kernel)
theorem wd579 : (Jvm.Cond.laysFinal "FormulaShapesModel" "FormulaShapesModel" "signBox" "[I") ∈ lw_big := lw_bg (List.mem_of_getElem? (i := 579) (by decide +kernel)) (by decide +kernel)
theorem wd580 : (Jvm.Cond.soleField "FormulaShapesModel" "signBox") ∈ lw_big := lw_bg (List.mem_of_getElem? (i := 580) (by decide +kernel)) (by decide +kernel)
theorem wd581 : (Jvm.Cond.laysFinal "FormulaShapesModel" "FormulaShapesModel" "hasPieces" "[Z") ∈ lw_big := lw_bg (List.mem_of_getElem? (i := 581) (by decide +kernel)) (by decide +kernel)
theorem wd582 : (Jvm.Cond.soleField "FormulaShapesModel" "hasPieces") ∈ lw_big := lw_bg (List.mem_of_getElem? (i := 582) (by decide +kernel)) (by decide +kernel)
theorem wd583 : (Jvm.Cond.laysFinal "FormulaShapesModel" "FormulaShapesModel" "piece" "[I") ∈ lw_big := lw_bg (List.mem_of_getElem? (i := 583) (by decide +kernel)) (by decide +kernel)
theorem wd584 : (Jvm.Cond.soleField "FormulaShapesModel" "piece") ∈ lw_big := lw_bg (List.mem_of_getElem? (i := 584) (by decide +kernel)) (by decide +kernel)
theorem wd585 : (Jvm.Cond.lays "FormulaShapesModel" "FormulaShapesModel" "size" "I") ∈ lw_big := lw_bg (List.mem_of_getElem? (i := 585) (by decide +kernel)) (by decide +kernel)
theorem wd586 : (Jvm.Cond.soleField "FormulaShapesModel" "size") ∈ lw_big := lw_bg (List.mem_of_getElem? (i := 586) (by decide +kernel)) (by decide +kernel)
theorem wd587 : (Jvm.Cond.superclass "FormulaShapesModel" "java/lang/Object") ∈ lw_big := lw_bg (List.mem_of_getElem? (i := 587) (by decide +kernel)) (by decide +kernel)
theorem wd588 : (Jvm.Cond.arrayClass Jvm.ClassFile.FieldType.boolean) ∈ lw_big := lw_bg (List.mem_of_getElem? (i := 588) (by decide +kernel)) (by decide +kernel)
theorem wd589 : (Jvm.Cond.methodLink "FormulaShapesLaw" (77 : Nat) ({ cls := "FormulaShapesModel", name := "thrown", desc := "()I" } : Jvm.MethodName)) ∈ lw_big := lw_bg (List.mem_of_getElem? (i := 589) (by decide +kernel)) (by decide +kernel)
theorem wd590 : (Jvm.Cond.instanceMethod ({ cls := "FormulaShapesModel", name := "thrown", desc := "()I" } : Jvm.MethodName)) ∈ lw_big := lw_bg (List.mem_of_getElem? (i := 590) (by decide +kernel)) (by decide +kernel)
theorem wd591 : (Jvm.Cond.selects "FormulaShapesModel" ({ cls := "FormulaShapesModel", name := "thrown", desc := "()I" } : Jvm.MethodName) ({ cls := "FormulaShapesModel", name := "thrown", desc := "()I" } : Jvm.MethodName)) ∈ lw_big := lw_bg (List.mem_of_getElem? (i := 591) (by decide +kernel)) (by decide +kernel)
theorem wd592 : (Jvm.Cond.code ({ cls := "FormulaShapesModel", name := "thrown", desc := "()I" } : Jvm.MethodName) prog_6_method_2_code (1 : Nat) (Option.some Jvm.ClassFile.FieldType.int)) ∈ lw_big := lw_bg (List.mem_of_getElem? (i := 592) (by decide +kernel)) (by decide +kernel)
theorem wd593 : (Jvm.Cond.methodLink "FormulaShapesLaw" (76 : Nat) ({ cls := "FormulaShapesModel", name := "parameter", desc := "(III)I" } : Jvm.MethodName)) ∈ lw_big := lw_bg (List.mem_of_getElem? (i := 593) (by decide +kernel)) (by decide +kernel)
theorem wd594 : (Jvm.Cond.instanceMethod ({ cls := "FormulaShapesModel", name := "parameter", desc := "(III)I" } : Jvm.MethodName)) ∈ lw_big := lw_bg (List.mem_of_getElem? (i := 594) (by decide +kernel)) (by decide +kernel)
theorem wd595 : (Jvm.Cond.selects "FormulaShapesModel" ({ cls := "FormulaShapesModel", name := "parameter", desc := "(III)I" } : Jvm.MethodName) ({ cls := "FormulaShapesModel", name := "parameter", desc := "(III)I" } : Jvm.MethodName)) ∈ lw_big := lw_bg (List.mem_of_getElem? (i := 595) (by decide +kernel)) (by decide +kernel)
theorem wd596 : (Jvm.Cond.code ({ cls := "FormulaShapesModel", name := "parameter", desc := "(III)I" } : Jvm.MethodName) prog_6_method_13_code (5 : Nat) (Option.some Jvm.ClassFile.FieldType.int)) ∈ lw_big := lw_bg (List.mem_of_getElem? (i := 596) (by decide +kernel)) (by decide +kernel)
theorem wd597 : (Jvm.Cond.methodLink "FormulaShapesModel" (63 : Nat) ({ cls := "FormulaShapesModel", name := "in", desc := "(III)Z" } : Jvm.MethodName)) ∈ lw_big := lw_bg (List.mem_of_getElem? (i := 597) (by decide +kernel)) (by decide +kernel)
theorem wd598 : (Jvm.Cond.static ({ cls := "FormulaShapesModel", name := "in", desc := "(III)Z" } : Jvm.MethodName)) ∈ lw_big := lw_bg (List.mem_of_getElem? (i := 598) (by decide +kernel)) (by decide +kernel)
theorem wd599 : (Jvm.Cond.code ({ cls := "FormulaShapesModel", name := "in", desc := "(III)Z" } : Jvm.MethodName) prog_6_method_3_code (3 : Nat) (Option.some Jvm.ClassFile.FieldType.boolean)) ∈ lw_big := lw_bg (List.mem_of_getElem? (i := 599) (by decide +kernel)) (by decide +kernel)
theorem wd600 : (Jvm.Cond.constant "FormulaShapesModel" (74 : Nat) (-1000000 : Int32)) ∈ lw_big := lw_bg (List.mem_of_getElem? (i := 600) (by decide +kernel)) (by decide +kernel)
theorem wd601 : (Jvm.Cond.constant "FormulaShapesModel" (75 : Nat) (1000000 : Int32)) ∈ lw_big := lw_bg (List.mem_of_getElem? (i := 601) (by decide +kernel)) (by decide +kernel)
theorem wd602 : (Jvm.Cond.methodLink "FormulaShapesLaw" (84 : Nat) ({ cls := "FormulaShapesModel", name := "set", desc := "(II)I" } : Jvm.MethodName)) ∈ lw_big := lw_bg (List.mem_of_getElem? (i := 602) (by decide +kernel)) (by decide +kernel)
theorem wd603 : (Jvm.Cond.instanceMethod ({ cls := "FormulaShapesModel", name := "set", desc := "(II)I" } : Jvm.MethodName)) ∈ lw_big := lw_bg (List.mem_of_getElem? (i := 603) (by decide +kernel)) (by decide +kernel)
theorem wd604 : (Jvm.Cond.selects "FormulaShapesModel" ({ cls := "FormulaShapesModel", name := "set", desc := "(II)I" } : Jvm.MethodName) ({ cls := "FormulaShapesModel", name := "set", desc := "(II)I" } : Jvm.MethodName)) ∈ lw_big := lw_bg (List.mem_of_getElem? (i := 604) (by decide +kernel)) (by decide +kernel)
theorem wd605 : (Jvm.Cond.code ({ cls := "FormulaShapesModel", name := "set", desc := "(II)I" } : Jvm.MethodName) prog_6_method_14_code (4 : Nat) (Option.some Jvm.ClassFile.FieldType.int)) ∈ lw_big := lw_bg (List.mem_of_getElem? (i := 605) (by decide +kernel)) (by decide +kernel)
theorem wd606 : (Jvm.Cond.methodLink "FormulaShapesLaw" (87 : Nat) ({ cls := "FormulaShapesModel", name := "box", desc := "(III)I" } : Jvm.MethodName)) ∈ lw_big := lw_bg (List.mem_of_getElem? (i := 606) (by decide +kernel)) (by decide +kernel)
theorem wd607 : (Jvm.Cond.instanceMethod ({ cls := "FormulaShapesModel", name := "box", desc := "(III)I" } : Jvm.MethodName)) ∈ lw_big := lw_bg (List.mem_of_getElem? (i := 607) (by decide +kernel)) (by decide +kernel)
theorem wd608 : (Jvm.Cond.selects "FormulaShapesModel" ({ cls := "FormulaShapesModel", name := "box", desc := "(III)I" } : Jvm.MethodName) ({ cls := "FormulaShapesModel", name := "box", desc := "(III)I" } : Jvm.MethodName)) ∈ lw_big := lw_bg (List.mem_of_getElem? (i := 608) (by decide +kernel)) (by decide +kernel)
theorem wd609 : (Jvm.Cond.code ({ cls := "FormulaShapesModel", name := "box", desc := "(III)I" } : Jvm.MethodName) prog_6_method_17_code (4 : Nat) (Option.some Jvm.ClassFile.FieldType.int)) ∈ lw_big := lw_bg (List.mem_of_getElem? (i := 609) (by decide +kernel)) (by decide +kernel)
theorem wd610 : (Jvm.Cond.methodLink "FormulaShapesModel" (85 : Nat) ({ cls := "FormulaShapesModel", name := "make", desc := "(III)I" } : Jvm.MethodName)) ∈ lw_big := lw_bg (List.mem_of_getElem? (i := 610) (by decide +kernel)) (by decide +kernel)
theorem wd611 : (Jvm.Cond.privateMethod ({ cls := "FormulaShapesModel", name := "make", desc := "(III)I" } : Jvm.MethodName)) ∈ lw_big := lw_bg (List.mem_of_getElem? (i := 611) (by decide +kernel)) (by decide +kernel)
theorem wd612 : (Jvm.Cond.instanceMethod ({ cls := "FormulaShapesModel", name := "make", desc := "(III)I" } : Jvm.MethodName)) ∈ lw_big := lw_bg (List.mem_of_getElem? (i := 612) (by decide +kernel)) (by decide +kernel)
theorem wd613 : (Jvm.Cond.code ({ cls := "FormulaShapesModel", name := "make", desc := "(III)I" } : Jvm.MethodName) prog_6_method_15_code (4 : Nat) (Option.some Jvm.ClassFile.FieldType.int)) ∈ lw_big := lw_bg (List.mem_of_getElem? (i := 613) (by decide +kernel)) (by decide +kernel)
theorem wd614 : (Jvm.Cond.methodLink "FormulaShapesLaw" (90 : Nat) ({ cls := "FormulaShapesModel", name := "sign", desc := "(II)I" } : Jvm.MethodName)) ∈ lw_big := lw_bg (List.mem_of_getElem? (i := 614) (by decide +kernel)) (by decide +kernel)
theorem wd615 : (Jvm.Cond.instanceMethod ({ cls := "FormulaShapesModel", name := "sign", desc := "(II)I" } : Jvm.MethodName)) ∈ lw_big := lw_bg (List.mem_of_getElem? (i := 615) (by decide +kernel)) (by decide +kernel)
theorem wd616 : (Jvm.Cond.selects "FormulaShapesModel" ({ cls := "FormulaShapesModel", name := "sign", desc := "(II)I" } : Jvm.MethodName) ({ cls := "FormulaShapesModel", name := "sign", desc := "(II)I" } : Jvm.MethodName)) ∈ lw_big := lw_bg (List.mem_of_getElem? (i := 616) (by decide +kernel)) (by decide +kernel)
theorem wd617 : (Jvm.Cond.code ({ cls := "FormulaShapesModel", name := "sign", desc := "(II)I" } : Jvm.MethodName) prog_6_method_18_code (3 : Nat) (Option.some Jvm.ClassFile.FieldType.int)) ∈ lw_big := lw_bg (List.mem_of_getElem? (i := 617) (by decide +kernel)) (by decide +kernel)
theorem wd618 : (Jvm.Cond.methodLink "FormulaShapesModel" (89 : Nat) ({ cls := "FormulaShapesModel", name := "isFamily", desc := "(I)Z" } : Jvm.MethodName)) ∈ lw_big := lw_bg (List.mem_of_getElem? (i := 618) (by decide +kernel)) (by decide +kernel)
theorem wd619 : (Jvm.Cond.static ({ cls := "FormulaShapesModel", name := "isFamily", desc := "(I)Z" } : Jvm.MethodName)) ∈ lw_big := lw_bg (List.mem_of_getElem? (i := 619) (by decide +kernel)) (by decide +kernel)
theorem wd620 : (Jvm.Cond.code ({ cls := "FormulaShapesModel", name := "isFamily", desc := "(I)Z" } : Jvm.MethodName) prog_6_method_9_code (1 : Nat) (Option.some Jvm.ClassFile.FieldType.boolean)) ∈ lw_big := lw_bg (List.mem_of_getElem? (i := 620) (by decide +kernel)) (by decide +kernel)
theorem wd621 : (Jvm.Cond.methodLink "FormulaShapesModel" (67 : Nat) ({ cls := "FormulaShapesModel", name := "isBox", desc := "(I)Z" } : Jvm.MethodName)) ∈ lw_big := lw_bg (List.mem_of_getElem? (i := 621) (by decide +kernel)) (by decide +kernel)
theorem wd622 : (Jvm.Cond.privateMethod ({ cls := "FormulaShapesModel", name := "isBox", desc := "(I)Z" } : Jvm.MethodName)) ∈ lw_big := lw_bg (List.mem_of_getElem? (i := 622) (by decide +kernel)) (by decide +kernel)
theorem wd623 : (Jvm.Cond.instanceMethod ({ cls := "FormulaShapesModel", name := "isBox", desc := "(I)Z" } : Jvm.MethodName)) ∈ lw_big := lw_bg (List.mem_of_getElem? (i := 623) (by decide +kernel)) (by decide +kernel)
theorem wd624 : (Jvm.Cond.code ({ cls := "FormulaShapesModel", name := "isBox", desc := "(I)Z" } : Jvm.MethodName) prog_6_method_7_code (2 : Nat) (Option.some Jvm.ClassFile.FieldType.boolean)) ∈ lw_big := lw_bg (List.mem_of_getElem? (i := 624) (by decide +kernel)) (by decide +kernel)
theorem wd625 : (Jvm.Cond.methodLink "FormulaShapesLaw" (94 : Nat) ({ cls := "FormulaShapesModel", name := "pieces", desc := "(IIIII)V" } : Jvm.MethodName)) ∈ lw_big := lw_bg (List.mem_of_getElem? (i := 625) (by decide +kernel)) (by decide +kernel)
theorem wd626 : (Jvm.Cond.instanceMethod ({ cls := "FormulaShapesModel", name := "pieces", desc := "(IIIII)V" } : Jvm.MethodName)) ∈ lw_big := lw_bg (List.mem_of_getElem? (i := 626) (by decide +kernel)) (by decide +kernel)
theorem wd627 : (Jvm.Cond.selects "FormulaShapesModel" ({ cls := "FormulaShapesModel", name := "pieces", desc := "(IIIII)V" } : Jvm.MethodName) ({ cls := "FormulaShapesModel", name := "pieces", desc := "(IIIII)V" } : Jvm.MethodName)) ∈ lw_big := lw_bg (List.mem_of_getElem? (i := 627) (by decide +kernel)) (by decide +kernel)
theorem wd628 : (Jvm.Cond.code ({ cls := "FormulaShapesModel", name := "pieces", desc := "(IIIII)V" } : Jvm.MethodName) prog_6_method_19_code (7 : Nat) (Option.none : Option Jvm.ClassFile.FieldType)) ∈ lw_big := lw_bg (List.mem_of_getElem? (i := 628) (by decide +kernel)) (by decide +kernel)
theorem wd629 : (Jvm.Cond.methodLink "FormulaShapesModel" (92 : Nat) ({ cls := "FormulaShapesModel", name := "isBoxOrNone", desc := "(I)Z" } : Jvm.MethodName)) ∈ lw_big := lw_bg (List.mem_of_getElem? (i := 629) (by decide +kernel)) (by decide +kernel)
theorem wd630 : (Jvm.Cond.privateMethod ({ cls := "FormulaShapesModel", name := "isBoxOrNone", desc := "(I)Z" } : Jvm.MethodName)) ∈ lw_big := lw_bg (List.mem_of_getElem? (i := 630) (by decide +kernel)) (by decide +kernel)
theorem wd631 : (Jvm.Cond.instanceMethod ({ cls := "FormulaShapesModel", name := "isBoxOrNone", desc := "(I)Z" } : Jvm.MethodName)) ∈ lw_big := lw_bg (List.mem_of_getElem? (i := 631) (by decide +kernel)) (by decide +kernel)
theorem wd632 : (Jvm.Cond.code ({ cls := "FormulaShapesModel", name := "isBoxOrNone", desc := "(I)Z" } : Jvm.MethodName) prog_6_method_8_code (2 : Nat) (Option.some Jvm.ClassFile.FieldType.boolean)) ∈ lw_big := lw_bg (List.mem_of_getElem? (i := 632) (by decide +kernel)) (by decide +kernel)
theorem wd633 : (Jvm.Cond.methodLink "FormulaShapesLaw" (97 : Nat) ({ cls := "FormulaShapesModel", name := "signOf", desc := "(II)I" } : Jvm.MethodName)) ∈ lw_big := lw_bg (List.mem_of_getElem? (i := 633) (by decide +kernel)) (by decide +kernel)
theorem wd634 : (Jvm.Cond.instanceMethod ({ cls := "FormulaShapesModel", name := "signOf", desc := "(II)I" } : Jvm.MethodName)) ∈ lw_big := lw_bg (List.mem_of_getElem? (i := 634) (by decide +kernel)) (by decide +kernel)
theorem wd635 : (Jvm.Cond.selects "FormulaShapesModel" ({ cls := "FormulaShapesModel", name := "signOf", desc := "(II)I" } : Jvm.MethodName) ({ cls := "FormulaShapesModel", name := "signOf", desc := "(II)I" } : Jvm.MethodName)) ∈ lw_big := lw_bg (List.mem_of_getElem? (i := 635) (by decide +kernel)) (by decide +kernel)
theorem wd636 : (Jvm.Cond.code ({ cls := "FormulaShapesModel", name := "signOf", desc := "(II)I" } : Jvm.MethodName) prog_6_method_25_code (3 : Nat) (Option.some Jvm.ClassFile.FieldType.int)) ∈ lw_big := lw_bg (List.mem_of_getElem? (i := 636) (by decide +kernel)) (by decide +kernel)
theorem wd637 : (Jvm.Cond.constant "FormulaShapesModel" (117 : Nat) (100000000 : Int32)) ∈ lw_big := lw_bg (List.mem_of_getElem? (i := 637) (by decide +kernel)) (by decide +kernel)
theorem wd638 : (Jvm.Cond.methodLink "FormulaShapesModel" (107 : Nat) ({ cls := "FormulaShapesModel", name := "plan", desc := "(II)I" } : Jvm.MethodName)) ∈ lw_big := lw_bg (List.mem_of_getElem? (i := 638) (by decide +kernel)) (by decide +kernel)
theorem wd639 : (Jvm.Cond.privateMethod ({ cls := "FormulaShapesModel", name := "plan", desc := "(II)I" } : Jvm.MethodName)) ∈ lw_big := lw_bg (List.mem_of_getElem? (i := 639) (by decide +kernel)) (by decide +kernel)
theorem wd640 : (Jvm.Cond.instanceMethod ({ cls := "FormulaShapesModel", name := "plan", desc := "(II)I" } : Jvm.MethodName)) ∈ lw_big := lw_bg (List.mem_of_getElem? (i := 640) (by decide +kernel)) (by decide +kernel)
theorem wd641 : (Jvm.Cond.code ({ cls := "FormulaShapesModel", name := "plan", desc := "(II)I" } : Jvm.MethodName) prog_6_method_21_code (4 : Nat) (Option.some Jvm.ClassFile.FieldType.int)) ∈ lw_big := lw_bg (List.mem_of_getElem? (i := 641) (by decide +kernel)) (by decide +kernel)
theorem wd642 : (Jvm.Cond.methodLink "FormulaShapesModel" (95 : Nat) ({ cls := "FormulaShapesModel", name := "tall", desc := "(I)I" } : Jvm.MethodName)) ∈ lw_big := lw_bg (List.mem_of_getElem? (i := 642) (by decide +kernel)) (by decide +kernel)
theorem wd643 : (Jvm.Cond.privateMethod ({ cls := "FormulaShapesModel", name := "tall", desc := "(I)I" } : Jvm.MethodName)) ∈ lw_big := lw_bg (List.mem_of_getElem? (i := 643) (by decide +kernel)) (by decide +kernel)
theorem wd644 : (Jvm.Cond.instanceMethod ({ cls := "FormulaShapesModel", name := "tall", desc := "(I)I" } : Jvm.MethodName)) ∈ lw_big := lw_bg (List.mem_of_getElem? (i := 644) (by decide +kernel)) (by decide +kernel)
theorem wd645 : (Jvm.Cond.code ({ cls := "FormulaShapesModel", name := "tall", desc := "(I)I" } : Jvm.MethodName) prog_6_method_20_code (2 : Nat) (Option.some Jvm.ClassFile.FieldType.int)) ∈ lw_big := lw_bg (List.mem_of_getElem? (i := 645) (by decide +kernel)) (by decide +kernel)
theorem wd646 : (Jvm.Cond.methodLink "FormulaShapesModel" (118 : Nat) ({ cls := "FormulaShapesModel", name := "signBy", desc := "(II)I" } : Jvm.MethodName)) ∈ lw_big := lw_bg (List.mem_of_getElem? (i := 646) (by decide +kernel)) (by decide +kernel)
theorem wd647 : (Jvm.Cond.privateMethod ({ cls := "FormulaShapesModel", name := "signBy", desc := "(II)I" } : Jvm.MethodName)) ∈ lw_big := lw_bg (List.mem_of_getElem? (i := 647) (by decide +kernel)) (by decide +kernel)
theorem wd648 : (Jvm.Cond.instanceMethod ({ cls := "FormulaShapesModel", name := "signBy", desc := "(II)I" } : Jvm.MethodName)) ∈ lw_big := lw_bg (List.mem_of_getElem? (i := 648) (by decide +kernel)) (by decide +kernel)
theorem wd649 : (Jvm.Cond.code ({ cls := "FormulaShapesModel", name := "signBy", desc := "(II)I" } : Jvm.MethodName) prog_6_method_24_code (7 : Nat) (Option.some Jvm.ClassFile.FieldType.int)) ∈ lw_big := lw_bg (List.mem_of_getElem? (i := 649) (by decide +kernel)) (by decide +kernel)
theorem wd650 : (Jvm.Cond.methodLink "FormulaShapesModel" (110 : Nat) ({ cls := "FormulaShapesModel", name := "repeats", desc := "(II)I" } : Jvm.MethodName)) ∈ lw_big := lw_bg (List.mem_of_getElem? (i := 650) (by decide +kernel)) (by decide +kernel)
theorem wd651 : (Jvm.Cond.privateMethod ({ cls := "FormulaShapesModel", name := "repeats", desc := "(II)I" } : Jvm.MethodName)) ∈ lw_big := lw_bg (List.mem_of_getElem? (i := 651) (by decide +kernel)) (by decide +kernel)
theorem wd652 : (Jvm.Cond.instanceMethod ({ cls := "FormulaShapesModel", name := "repeats", desc := "(II)I" } : Jvm.MethodName)) ∈ lw_big := lw_bg (List.mem_of_getElem? (i := 652) (by decide +kernel)) (by decide +kernel)
theorem wd653 : (Jvm.Cond.code ({ cls := "FormulaShapesModel", name := "repeats", desc := "(II)I" } : Jvm.MethodName) prog_6_method_22_code (6 : Nat) (Option.some Jvm.ClassFile.FieldType.int)) ∈ lw_big := lw_bg (List.mem_of_getElem? (i := 653) (by decide +kernel)) (by decide +kernel)
theorem wd654 : (Jvm.Cond.methodLink "FormulaShapesModel" (113 : Nat) ({ cls := "FormulaShapesModel", name := "pile", desc := "(I)V" } : Jvm.MethodName)) ∈ lw_big := lw_bg (List.mem_of_getElem? (i := 654) (by decide +kernel)) (by decide +kernel)
theorem wd655 : (Jvm.Cond.privateMethod ({ cls := "FormulaShapesModel", name := "pile", desc := "(I)V" } : Jvm.MethodName)) ∈ lw_big := lw_bg (List.mem_of_getElem? (i := 655) (by decide +kernel)) (by decide +kernel)
theorem wd656 : (Jvm.Cond.instanceMethod ({ cls := "FormulaShapesModel", name := "pile", desc := "(I)V" } : Jvm.MethodName)) ∈ lw_big := lw_bg (List.mem_of_getElem? (i := 656) (by decide +kernel)) (by decide +kernel)
theorem wd657 : (Jvm.Cond.code ({ cls := "FormulaShapesModel", name := "pile", desc := "(I)V" } : Jvm.MethodName) prog_6_method_23_code (3 : Nat) (Option.none : Option Jvm.ClassFile.FieldType)) ∈ lw_big := lw_bg (List.mem_of_getElem? (i := 657) (by decide +kernel)) (by decide +kernel)
theorem wd658 : (Jvm.Cond.methodLink "FormulaShapesModel" (99 : Nat) ({ cls := "FormulaShapesModel", name := "lay", desc := "(III)V" } : Jvm.MethodName)) ∈ lw_big := lw_bg (List.mem_of_getElem? (i := 658) (by decide +kernel)) (by decide +kernel)
theorem wd659 : (Jvm.Cond.privateMethod ({ cls := "FormulaShapesModel", name := "lay", desc := "(III)V" } : Jvm.MethodName)) ∈ lw_big := lw_bg (List.mem_of_getElem? (i := 659) (by decide +kernel)) (by decide +kernel)
theorem wd660 : (Jvm.Cond.instanceMethod ({ cls := "FormulaShapesModel", name := "lay", desc := "(III)V" } : Jvm.MethodName)) ∈ lw_big := lw_bg (List.mem_of_getElem? (i := 660) (by decide +kernel)) (by decide +kernel)
theorem wd661 : (Jvm.Cond.code ({ cls := "FormulaShapesModel", name := "lay", desc := "(III)V" } : Jvm.MethodName) prog_6_method_16_code (4 : Nat) (Option.none : Option Jvm.ClassFile.FieldType)) ∈ lw_big := lw_bg (List.mem_of_getElem? (i := 661) (by decide +kernel)) (by decide +kernel)
theorem wd662 : (Jvm.Cond.methodLink "FormulaShapesModel" (103 : Nat) ({ cls := "FormulaShapesModel", name := "greater", desc := "(II)I" } : Jvm.MethodName)) ∈ lw_big := lw_bg (List.mem_of_getElem? (i := 662) (by decide +kernel)) (by decide +kernel)
theorem wd663 : (Jvm.Cond.static ({ cls := "FormulaShapesModel", name := "greater", desc := "(II)I" } : Jvm.MethodName)) ∈ lw_big := lw_bg (List.mem_of_getElem? (i := 663) (by decide +kernel)) (by decide +kernel)
theorem wd664 : (Jvm.Cond.code ({ cls := "FormulaShapesModel", name := "greater", desc := "(II)I" } : Jvm.MethodName) prog_6_method_6_code (2 : Nat) (Option.some Jvm.ClassFile.FieldType.int)) ∈ lw_big := lw_bg (List.mem_of_getElem? (i := 664) (by decide +kernel)) (by decide +kernel)
theorem wd665 : (Jvm.Cond.methodLink "FormulaShapesLaw" (101 : Nat) ({ cls := "FormulaShapesModel", name := "fraction", desc := "(IIII)I" } : Jvm.MethodName)) ∈ lw_big := lw_bg (List.mem_of_getElem? (i := 665) (by decide +kernel)) (by decide +kernel)
theorem wd666 : (Jvm.Cond.instanceMethod ({ cls := "FormulaShapesModel", name := "fraction", desc := "(IIII)I" } : Jvm.MethodName)) ∈ lw_big := lw_bg (List.mem_of_getElem? (i := 666) (by decide +kernel)) (by decide +kernel)
theorem wd667 : (Jvm.Cond.selects "FormulaShapesModel" ({ cls := "FormulaShapesModel", name := "fraction", desc := "(IIII)I" } : Jvm.MethodName) ({ cls := "FormulaShapesModel", name := "fraction", desc := "(IIII)I" } : Jvm.MethodName)) ∈ lw_big := lw_bg (List.mem_of_getElem? (i := 667) (by decide +kernel)) (by decide +kernel)
theorem wd668 : (Jvm.Cond.code ({ cls := "FormulaShapesModel", name := "fraction", desc := "(IIII)I" } : Jvm.MethodName) prog_6_method_26_code (11 : Nat) (Option.some Jvm.ClassFile.FieldType.int)) ∈ lw_big := lw_bg (List.mem_of_getElem? (i := 668) (by decide +kernel)) (by decide +kernel)
theorem wd669 : (Jvm.Cond.methodLink "FormulaShapesModel" (121 : Nat) ({ cls := "FormulaShapesModel", name := "isStyle", desc := "(I)Z" } : Jvm.MethodName)) ∈ lw_big := lw_bg (List.mem_of_getElem? (i := 669) (by decide +kernel)) (by decide +kernel)
theorem wd670 : (Jvm.Cond.static ({ cls := "FormulaShapesModel", name := "isStyle", desc := "(I)Z" } : Jvm.MethodName)) ∈ lw_big := lw_bg (List.mem_of_getElem? (i := 670) (by decide +kernel)) (by decide +kernel)
theorem wd671 : (Jvm.Cond.code ({ cls := "FormulaShapesModel", name := "isStyle", desc := "(I)Z" } : Jvm.MethodName) prog_6_method_10_code (1 : Nat) (Option.some Jvm.ClassFile.FieldType.boolean)) ∈ lw_big := lw_bg (List.mem_of_getElem? (i := 671) (by decide +kernel)) (by decide +kernel)
theorem wd672 : (Jvm.Cond.methodLink "FormulaShapesModel" (124 : Nat) ({ cls := "FormulaShapesModel", name := "use", desc := "(I)V" } : Jvm.MethodName)) ∈ lw_big := lw_bg (List.mem_of_getElem? (i := 672) (by decide +kernel)) (by decide +kernel)
theorem wd673 : (Jvm.Cond.privateMethod ({ cls := "FormulaShapesModel", name := "use", desc := "(I)V" } : Jvm.MethodName)) ∈ lw_big := lw_bg (List.mem_of_getElem? (i := 673) (by decide +kernel)) (by decide +kernel)
theorem wd674 : (Jvm.Cond.instanceMethod ({ cls := "FormulaShapesModel", name := "use", desc := "(I)V" } : Jvm.MethodName)) ∈ lw_big := lw_bg (List.mem_of_getElem? (i := 674) (by decide +kernel)) (by decide +kernel)
theorem wd675 : (Jvm.Cond.code ({ cls := "FormulaShapesModel", name := "use", desc := "(I)V" } : Jvm.MethodName) prog_6_method_12_code (2 : Nat) (Option.none : Option Jvm.ClassFile.FieldType)) ∈ lw_big := lw_bg (List.mem_of_getElem? (i := 675) (by decide +kernel)) (by decide +kernel)
theorem wd676 : (Jvm.Cond.methodLink "FormulaShapesModel" (127 : Nat) ({ cls := "FormulaShapesModel", name := "p", desc := "(I)I" } : Jvm.MethodName)) ∈ lw_big := lw_bg (List.mem_of_getElem? (i := 676) (by decide +kernel)) (by decide +kernel)
theorem wd677 : (Jvm.Cond.privateMethod ({ cls := "FormulaShapesModel", name := "p", desc := "(I)I" } : Jvm.MethodName)) ∈ lw_big := lw_bg (List.mem_of_getElem? (i := 677) (by decide +kernel)) (by decide +kernel)
theorem wd678 : (Jvm.Cond.instanceMethod ({ cls := "FormulaShapesModel", name := "p", desc := "(I)I" } : Jvm.MethodName)) ∈ lw_big := lw_bg (List.mem_of_getElem? (i := 678) (by decide +kernel)) (by decide +kernel)
theorem wd679 : (Jvm.Cond.code ({ cls := "FormulaShapesModel", name := "p", desc := "(I)I" } : Jvm.MethodName) prog_6_method_11_code (2 : Nat) (Option.some Jvm.ClassFile.FieldType.int)) ∈ lw_big := lw_bg (List.mem_of_getElem? (i := 679) (by decide +kernel)) (by decide +kernel)
theorem wd680 : (Jvm.Cond.methodLink "FormulaShapesModel" (130 : Nat) ({ cls := "FormulaShapesModel", name := "half", desc := "(I)I" } : Jvm.MethodName)) ∈ lw_big := lw_bg (List.mem_of_getElem? (i := 680) (by decide +kernel)) (by decide +kernel)
theorem wd681 : (Jvm.Cond.static ({ cls := "FormulaShapesModel", name := "half", desc := "(I)I" } : Jvm.MethodName)) ∈ lw_big := lw_bg (List.mem_of_getElem? (i := 681) (by decide +kernel)) (by decide +kernel)
theorem wd682 : (Jvm.Cond.code ({ cls := "FormulaShapesModel", name := "half", desc := "(I)I" } : Jvm.MethodName) prog_6_method_4_code (1 : Nat) (Option.some Jvm.ClassFile.FieldType.int)) ∈ lw_big := lw_bg (List.mem_of_getElem? (i := 682) (by decide +kernel)) (by decide +kernel)
theorem wd683 : (Jvm.Cond.methodLink "FormulaShapesLaw" (104 : Nat) ({ cls := "FormulaShapesModel", name := "root", desc := "(III)I" } : Jvm.MethodName)) ∈ lw_big := lw_bg (List.mem_of_getElem? (i := 683) (by decide +kernel)) (by decide +kernel)
theorem wd684 : (Jvm.Cond.instanceMethod ({ cls := "FormulaShapesModel", name := "root", desc := "(III)I" } : Jvm.MethodName)) ∈ lw_big := lw_bg (List.mem_of_getElem? (i := 684) (by decide +kernel)) (by decide +kernel)
theorem wd685 : (Jvm.Cond.selects "FormulaShapesModel" ({ cls := "FormulaShapesModel", name := "root", desc := "(III)I" } : Jvm.MethodName) ({ cls := "FormulaShapesModel", name := "root", desc := "(III)I" } : Jvm.MethodName)) ∈ lw_big := lw_bg (List.mem_of_getElem? (i := 685) (by decide +kernel)) (by decide +kernel)
theorem wd686 : (Jvm.Cond.code ({ cls := "FormulaShapesModel", name := "root", desc := "(III)I" } : Jvm.MethodName) prog_6_method_27_code (14 : Nat) (Option.some Jvm.ClassFile.FieldType.int)) ∈ lw_big := lw_bg (List.mem_of_getElem? (i := 686) (by decide +kernel)) (by decide +kernel)
theorem wd687 : (Jvm.Cond.methodLink "FormulaShapesModel" (133 : Nat) ({ cls := "FormulaShapesModel", name := "abs", desc := "(I)I" } : Jvm.MethodName)) ∈ lw_big := lw_bg (List.mem_of_getElem? (i := 687) (by decide +kernel)) (by decide +kernel)
theorem wd688 : (Jvm.Cond.static ({ cls := "FormulaShapesModel", name := "abs", desc := "(I)I" } : Jvm.MethodName)) ∈ lw_big := lw_bg (List.mem_of_getElem? (i := 688) (by decide +kernel)) (by decide +kernel)
theorem wd689 : (Jvm.Cond.code ({ cls := "FormulaShapesModel", name := "abs", desc := "(I)I" } : Jvm.MethodName) prog_6_method_5_code (1 : Nat) (Option.some Jvm.ClassFile.FieldType.int)) ∈ lw_big := lw_bg (List.mem_of_getElem? (i := 689) (by decide +kernel)) (by decide +kernel)
theorem wd690 : (Jvm.Cond.methodLink "FormulaShapesLaw" (108 : Nat) ({ cls := "FormulaShapesModel", name := "signs", desc := "(IZIZII)I" } : Jvm.MethodName)) ∈ lw_big := lw_bg (List.mem_of_getElem? (i := 690) (by decide +kernel)) (by decide +kernel)
theorem wd691 : (Jvm.Cond.instanceMethod ({ cls := "FormulaShapesModel", name := "signs", desc := "(IZIZII)I" } : Jvm.MethodName)) ∈ lw_big := lw_bg (List.mem_of_getElem? (i := 691) (by decide +kernel)) (by decide +kernel)
theorem wd692 : (Jvm.Cond.selects "FormulaShapesModel" ({ cls := "FormulaShapesModel", name := "signs", desc := "(IZIZII)I" } : Jvm.MethodName) ({ cls := "FormulaShapesModel", name := "signs", desc := "(IZIZII)I" } : Jvm.MethodName)) ∈ lw_big := lw_bg (List.mem_of_getElem? (i := 692) (by decide +kernel)) (by decide +kernel)
theorem wd693 : (Jvm.Cond.code ({ cls := "FormulaShapesModel", name := "signs", desc := "(IZIZII)I" } : Jvm.MethodName) prog_6_method_28_code (13 : Nat) (Option.some Jvm.ClassFile.FieldType.int)) ∈ lw_big := lw_bg (List.mem_of_getElem? (i := 693) (by decide +kernel)) (by decide +kernel)
theorem wd694 : (Jvm.Cond.methodLink "FormulaShapesLaw" (111 : Nat) ({ cls := "FormulaShapesModel", name := "limits", desc := "(IIII)I" } : Jvm.MethodName)) ∈ lw_big := lw_bg (List.mem_of_getElem? (i := 694) (by decide +kernel)) (by decide +kernel)
theorem wd695 : (Jvm.Cond.instanceMethod ({ cls := "FormulaShapesModel", name := "limits", desc := "(IIII)I" } : Jvm.MethodName)) ∈ lw_big := lw_bg (List.mem_of_getElem? (i := 695) (by decide +kernel)) (by decide +kernel)
theorem wd696 : (Jvm.Cond.selects "FormulaShapesModel" ({ cls := "FormulaShapesModel", name := "limits", desc := "(IIII)I" } : Jvm.MethodName) ({ cls := "FormulaShapesModel", name := "limits", desc := "(IIII)I" } : Jvm.MethodName)) ∈ lw_big := lw_bg (List.mem_of_getElem? (i := 696) (by decide +kernel)) (by decide +kernel)
theorem wd697 : (Jvm.Cond.code ({ cls := "FormulaShapesModel", name := "limits", desc := "(IIII)I" } : Jvm.MethodName) prog_6_method_29_code (11 : Nat) (Option.some Jvm.ClassFile.FieldType.int)) ∈ lw_big := lw_bg (List.mem_of_getElem? (i := 697) (by decide +kernel)) (by decide +kernel)
theorem wd698 : (Jvm.Cond.methodLink "FormulaShapesLaw" (114 : Nat) ({ cls := "FormulaShapesModel", name := "brackets", desc := "(IIII)I" } : Jvm.MethodName)) ∈ lw_big := lw_bg (List.mem_of_getElem? (i := 698) (by decide +kernel)) (by decide +kernel)
theorem wd699 : (Jvm.Cond.instanceMethod ({ cls := "FormulaShapesModel", name := "brackets", desc := "(IIII)I" } : Jvm.MethodName)) ∈ lw_big := lw_bg (List.mem_of_getElem? (i := 699) (by decide +kernel)) (by decide +kernel)
theorem wd700 : (Jvm.Cond.selects "FormulaShapesModel" ({ cls := "FormulaShapesModel", name := "brackets", desc := "(IIII)I" } : Jvm.MethodName) ({ cls := "FormulaShapesModel", name := "brackets", desc := "(IIII)I" } : Jvm.MethodName)) ∈ lw_big := lw_bg (List.mem_of_getElem? (i := 700) (by decide +kernel)) (by decide +kernel)
theorem wd701 : (Jvm.Cond.code ({ cls := "FormulaShapesModel", name := "brackets", desc := "(IIII)I" } : Jvm.MethodName) prog_6_method_31_code (13 : Nat) (Option.some Jvm.ClassFile.FieldType.int)) ∈ lw_big := lw_bg (List.mem_of_getElem? (i := 701) (by decide +kernel)) (by decide +kernel)
theorem wd702 : (Jvm.Cond.methodLink "FormulaShapesModel" (136 : Nat) ({ cls := "FormulaShapesModel", name := "reach", desc := "()V" } : Jvm.MethodName)) ∈ lw_big := lw_bg (List.mem_of_getElem? (i := 702) (by decide +kernel)) (by decide +kernel)
theorem wd703 : (Jvm.Cond.privateMethod ({ cls := "FormulaShapesModel", name := "reach", desc := "()V" } : Jvm.MethodName)) ∈ lw_big := lw_bg (List.mem_of_getElem? (i := 703) (by decide +kernel)) (by decide +kernel)
theorem wd704 : (Jvm.Cond.instanceMethod ({ cls := "FormulaShapesModel", name := "reach", desc := "()V" } : Jvm.MethodName)) ∈ lw_big := lw_bg (List.mem_of_getElem? (i := 704) (by decide +kernel)) (by decide +kernel)
theorem wd705 : (Jvm.Cond.code ({ cls := "FormulaShapesModel", name := "reach", desc := "()V" } : Jvm.MethodName) prog_6_method_30_code (6 : Nat) (Option.none : Option Jvm.ClassFile.FieldType)) ∈ lw_big := lw_bg (List.mem_of_getElem? (i := 705) (by decide +kernel)) (by decide +kernel)
theorem wd706 : (Jvm.Cond.methodLink "FormulaShapesLaw" (117 : Nat) ({ cls := "FormulaShapesModel", name := "row", desc := "(III)I" } : Jvm.MethodName)) ∈ lw_big := lw_bg (List.mem_of_getElem? (i := 706) (by decide +kernel)) (by decide +kernel)
theorem wd707 : (Jvm.Cond.instanceMethod ({ cls := "FormulaShapesModel", name := "row", desc := "(III)I" } : Jvm.MethodName)) ∈ lw_big := lw_bg (List.mem_of_getElem? (i := 707) (by decide +kernel)) (by decide +kernel)
theorem wd708 : (Jvm.Cond.selects "FormulaShapesModel" ({ cls := "FormulaShapesModel", name := "row", desc := "(III)I" } : Jvm.MethodName) ({ cls := "FormulaShapesModel", name := "row", desc := "(III)I" } : Jvm.MethodName)) ∈ lw_big := lw_bg (List.mem_of_getElem? (i := 708) (by decide +kernel)) (by decide +kernel)
theorem wd709 : (Jvm.Cond.code ({ cls := "FormulaShapesModel", name := "row", desc := "(III)I" } : Jvm.MethodName) prog_6_method_32_code (5 : Nat) (Option.some Jvm.ClassFile.FieldType.int)) ∈ lw_big := lw_bg (List.mem_of_getElem? (i := 709) (by decide +kernel)) (by decide +kernel)
theorem wd710 : (Jvm.Cond.methodLink "FormulaShapesLaw" (120 : Nat) ({ cls := "FormulaShapesModel", name := "centre", desc := "(II)I" } : Jvm.MethodName)) ∈ lw_big := lw_bg (List.mem_of_getElem? (i := 710) (by decide +kernel)) (by decide +kernel)
theorem wd711 : (Jvm.Cond.instanceMethod ({ cls := "FormulaShapesModel", name := "centre", desc := "(II)I" } : Jvm.MethodName)) ∈ lw_big := lw_bg (List.mem_of_getElem? (i := 711) (by decide +kernel)) (by decide +kernel)
theorem wd712 : (Jvm.Cond.selects "FormulaShapesModel" ({ cls := "FormulaShapesModel", name := "centre", desc := "(II)I" } : Jvm.MethodName) ({ cls := "FormulaShapesModel", name := "centre", desc := "(II)I" } : Jvm.MethodName)) ∈ lw_big := lw_bg (List.mem_of_getElem? (i := 712) (by decide +kernel)) (by decide +kernel)
theorem wd713 : (Jvm.Cond.code ({ cls := "FormulaShapesModel", name := "centre", desc := "(II)I" } : Jvm.MethodName) prog_6_method_33_code (4 : Nat) (Option.some Jvm.ClassFile.FieldType.int)) ∈ lw_big := lw_bg (List.mem_of_getElem? (i := 713) (by decide +kernel)) (by decide +kernel)
theorem wd714 : (Jvm.Cond.methodLink "FormulaShapesLaw" (123 : Nat) ({ cls := "FormulaShapesModel", name := "told", desc := "(II)I" } : Jvm.MethodName)) ∈ lw_big := lw_bg (List.mem_of_getElem? (i := 714) (by decide +kernel)) (by decide +kernel)
theorem wd715 : (Jvm.Cond.instanceMethod ({ cls := "FormulaShapesModel", name := "told", desc := "(II)I" } : Jvm.MethodName)) ∈ lw_big := lw_bg (List.mem_of_getElem? (i := 715) (by decide +kernel)) (by decide +kernel)
theorem wd716 : (Jvm.Cond.selects "FormulaShapesModel" ({ cls := "FormulaShapesModel", name := "told", desc := "(II)I" } : Jvm.MethodName) ({ cls := "FormulaShapesModel", name := "told", desc := "(II)I" } : Jvm.MethodName)) ∈ lw_big := lw_bg (List.mem_of_getElem? (i := 716) (by decide +kernel)) (by decide +kernel)
theorem wd717 : (Jvm.Cond.code ({ cls := "FormulaShapesModel", name := "told", desc := "(II)I" } : Jvm.MethodName) prog_6_method_34_code (3 : Nat) (Option.some Jvm.ClassFile.FieldType.int)) ∈ lw_big := lw_bg (List.mem_of_getElem? (i := 717) (by decide +kernel)) (by decide +kernel)
theorem wd718 : (Jvm.Cond.methodLink "FormulaShapesLaw" (126 : Nat) ({ cls := "FormulaShapesModel", name := "part", desc := "(III)I" } : Jvm.MethodName)) ∈ lw_big := lw_bg (List.mem_of_getElem? (i := 718) (by decide +kernel)) (by decide +kernel)
theorem wd719 : (Jvm.Cond.instanceMethod ({ cls := "FormulaShapesModel", name := "part", desc := "(III)I" } : Jvm.MethodName)) ∈ lw_big := lw_bg (List.mem_of_getElem? (i := 719) (by decide +kernel)) (by decide +kernel)
theorem wd720 : (Jvm.Cond.selects "FormulaShapesModel" ({ cls := "FormulaShapesModel", name := "part", desc := "(III)I" } : Jvm.MethodName) ({ cls := "FormulaShapesModel", name := "part", desc := "(III)I" } : Jvm.MethodName)) ∈ lw_big := lw_bg (List.mem_of_getElem? (i := 720) (by decide +kernel)) (by decide +kernel)
theorem wd721 : (Jvm.Cond.code ({ cls := "FormulaShapesModel", name := "part", desc := "(III)I" } : Jvm.MethodName) prog_6_method_35_code (6 : Nat) (Option.some Jvm.ClassFile.FieldType.int)) ∈ lw_big := lw_bg (List.mem_of_getElem? (i := 721) (by decide +kernel)) (by decide +kernel)
theorem wd722 : (Jvm.Cond.methodLink "FormulaShapesLaw" (130 : Nat) ({ cls := "FormulaShapesModel", name := "boxes", desc := "()I" } : Jvm.MethodName)) ∈ lw_big := lw_bg (List.mem_of_getElem? (i := 722) (by decide +kernel)) (by decide +kernel)
theorem wd723 : (Jvm.Cond.instanceMethod ({ cls := "FormulaShapesModel", name := "boxes", desc := "()I" } : Jvm.MethodName)) ∈ lw_big := lw_bg (List.mem_of_getElem? (i := 723) (by decide +kernel)) (by decide +kernel)
theorem wd724 : (Jvm.Cond.selects "FormulaShapesModel" ({ cls := "FormulaShapesModel", name := "boxes", desc := "()I" } : Jvm.MethodName) ({ cls := "FormulaShapesModel", name := "boxes", desc := "()I" } : Jvm.MethodName)) ∈ lw_big := lw_bg (List.mem_of_getElem? (i := 724) (by decide +kernel)) (by decide +kernel)
theorem wd725 : (Jvm.Cond.code ({ cls := "FormulaShapesModel", name := "boxes", desc := "()I" } : Jvm.MethodName) prog_6_method_36_code (1 : Nat) (Option.some Jvm.ClassFile.FieldType.int)) ∈ lw_big := lw_bg (List.mem_of_getElem? (i := 725) (by decide +kernel)) (by decide +kernel)
theorem wd726 : (Jvm.Cond.arrayClass Jvm.ClassFile.FieldType.long) ∈ lw_big := lw_bg (List.mem_of_getElem? (i := 726) (by decide +kernel)) (by decide +kernel)
theorem wd727 : (Jvm.Cond.sameMethod "java/lang/Throwable" "java/lang/Throwable" "fillInStackTrace" "(I)Ljava/lang/Throwable;") ∈ lw_big := lw_bg (List.mem_of_getElem? (i := 727) (by decide +kernel)) (by decide +kernel)
theorem ws0 : Cond.selects "java/lang/Throwable" ⟨"java/lang/Throwable", "fillInStackTrace", "(I)Ljava/lang/Throwable;"⟩ ⟨"java/lang/Throwable", "fillInStackTrace", "(I)Ljava/lang/Throwable;"⟩ ∈ lw_big := lw_bs (List.mem_of_getElem? (i := 0) (by decide +kernel)) (by decide +kernel)
theorem ws1 : Cond.selects "FormulaShapes" ⟨"FormulaShapes", "needRoom", "(I)V"⟩ ⟨"FormulaShapes", "needRoom", "(I)V"⟩ ∈ lw_big := lw_bs (List.mem_of_getElem? (i := 1) (by decide +kernel)) (by decide +kernel)
theorem ws2 : Cond.selects "FormulaShapes" ⟨"FormulaShapes", "keep", "(LFormulaShapes$Box;)I"⟩ ⟨"FormulaShapes", "keep", "(LFormulaShapes$Box;)I"⟩ ∈ lw_big := lw_bs (List.mem_of_getElem? (i := 2) (by decide +kernel)) (by decide +kernel)
theorem ws3 : Cond.selects "FormulaShapes" ⟨"FormulaShapes", "needBox", "(I)V"⟩ ⟨"FormulaShapes", "needBox", "(I)V"⟩ ∈ lw_big := lw_bs (List.mem_of_getElem? (i := 3) (by decide +kernel)) (by decide +kernel)
theorem ws4 : Cond.selects "FormulaShapes" ⟨"FormulaShapes", "needBoxOrNone", "(I)V"⟩ ⟨"FormulaShapes", "needBoxOrNone", "(I)V"⟩ ∈ lw_big := lw_bs (List.mem_of_getElem? (i := 4) (by decide +kernel)) (by decide +kernel)
theorem ws5 : Cond.selects "FormulaShapes" ⟨"FormulaShapes", "extentOf", "(I)I"⟩ ⟨"FormulaShapes", "extentOf", "(I)I"⟩ ∈ lw_big := lw_bs (List.mem_of_getElem? (i := 5) (by decide +kernel)) (by decide +kernel)
theorem ws6 : Cond.selects "FormulaShapes" ⟨"FormulaShapes", "readySign", "(LFormulaShapes$Family;I)I"⟩ ⟨"FormulaShapes", "readySign", "(LFormulaShapes$Family;I)I"⟩ ∈ lw_big := lw_bs (List.mem_of_getElem? (i := 6) (by decide +kernel)) (by decide +kernel)
theorem ws7 : Cond.selects "FormulaShapes" ⟨"FormulaShapes", "keptSign", "(LFormulaShapes$Family;II)I"⟩ ⟨"FormulaShapes", "keptSign", "(LFormulaShapes$Family;II)I"⟩ ∈ lw_big := lw_bs (List.mem_of_getElem? (i := 7) (by decide +kernel)) (by decide +kernel)
theorem ws8 : Cond.selects "FormulaShapes" ⟨"FormulaShapes", "putTogether", "(LFormulaShapes$Family;I)LFormulaShapes$Box;"⟩ ⟨"FormulaShapes", "putTogether", "(LFormulaShapes$Family;I)LFormulaShapes$Box;"⟩ ∈ lw_big := lw_bs (List.mem_of_getElem? (i := 8) (by decide +kernel)) (by decide +kernel)
theorem ws9 : Cond.selects "FormulaShapes" ⟨"FormulaShapes", "pileUp", "(LFormulaShapes$Pile;II)V"⟩ ⟨"FormulaShapes", "pileUp", "(LFormulaShapes$Pile;II)V"⟩ ∈ lw_big := lw_bs (List.mem_of_getElem? (i := 9) (by decide +kernel)) (by decide +kernel)
theorem ws10 : Cond.selects "FormulaShapes" ⟨"FormulaShapes", "fractionWithLine", "(IIII)LFormulaShapes$Box;"⟩ ⟨"FormulaShapes", "fractionWithLine", "(IIII)LFormulaShapes$Box;"⟩ ∈ lw_big := lw_bs (List.mem_of_getElem? (i := 10) (by decide +kernel)) (by decide +kernel)
theorem ws11 : Cond.selects "FormulaShapes" ⟨"FormulaShapes", "valueOf", "(II)I"⟩ ⟨"FormulaShapes", "valueOf", "(II)I"⟩ ∈ lw_big := lw_bs (List.mem_of_getElem? (i := 11) (by decide +kernel)) (by decide +kernel)
theorem ws12 : Cond.selects "FormulaShapes" ⟨"FormulaShapes", "depthOf", "(I)I"⟩ ⟨"FormulaShapes", "depthOf", "(I)I"⟩ ∈ lw_big := lw_bs (List.mem_of_getElem? (i := 12) (by decide +kernel)) (by decide +kernel)
theorem ws13 : Cond.selects "FormulaShapes" ⟨"FormulaShapes", "heightOf", "(I)I"⟩ ⟨"FormulaShapes", "heightOf", "(I)I"⟩ ∈ lw_big := lw_bs (List.mem_of_getElem? (i := 13) (by decide +kernel)) (by decide +kernel)
theorem ws14 : Cond.selects "FormulaShapes" ⟨"FormulaShapes", "widthOf", "(I)I"⟩ ⟨"FormulaShapes", "widthOf", "(I)I"⟩ ∈ lw_big := lw_bs (List.mem_of_getElem? (i := 14) (by decide +kernel)) (by decide +kernel)
theorem ws15 : Cond.selects "FormulaShapes" ⟨"FormulaShapes", "fractionBare", "(III)LFormulaShapes$Box;"⟩ ⟨"FormulaShapes", "fractionBare", "(III)LFormulaShapes$Box;"⟩ ∈ lw_big := lw_bs (List.mem_of_getElem? (i := 15) (by decide +kernel)) (by decide +kernel)
theorem ws16 : Cond.selects "FormulaShapes" ⟨"FormulaShapes", "rootClearance", "(I)I"⟩ ⟨"FormulaShapes", "rootClearance", "(I)I"⟩ ∈ lw_big := lw_bs (List.mem_of_getElem? (i := 16) (by decide +kernel)) (by decide +kernel)
theorem ws17 : Cond.selects "FormulaShapes" ⟨"FormulaShapes", "rootShape", "(IIIZ)LFormulaShapes$Box;"⟩ ⟨"FormulaShapes", "rootShape", "(IIIZ)LFormulaShapes$Box;"⟩ ∈ lw_big := lw_bs (List.mem_of_getElem? (i := 17) (by decide +kernel)) (by decide +kernel)
theorem ws18 : Cond.selects "FormulaShapes" ⟨"FormulaShapes", "downAlone", "(III)I"⟩ ⟨"FormulaShapes", "downAlone", "(III)I"⟩ ∈ lw_big := lw_bs (List.mem_of_getElem? (i := 18) (by decide +kernel)) (by decide +kernel)
theorem ws19 : Cond.selects "FormulaShapes" ⟨"FormulaShapes", "fourFifths", "(I)I"⟩ ⟨"FormulaShapes", "fourFifths", "(I)I"⟩ ∈ lw_big := lw_bs (List.mem_of_getElem? (i := 19) (by decide +kernel)) (by decide +kernel)
theorem ws20 : Cond.selects "FormulaShapes" ⟨"FormulaShapes", "enclosing", "(I[I)LFormulaShapes$Box;"⟩ ⟨"FormulaShapes", "enclosing", "(I[I)LFormulaShapes$Box;"⟩ ∈ lw_big := lw_bs (List.mem_of_getElem? (i := 20) (by decide +kernel)) (by decide +kernel)
theorem ws21 : Cond.selects "FormulaShapes" ⟨"FormulaShapes", "upShift", "(IZII)I"⟩ ⟨"FormulaShapes", "upShift", "(IZII)I"⟩ ∈ lw_big := lw_bs (List.mem_of_getElem? (i := 21) (by decide +kernel)) (by decide +kernel)
theorem ws22 : Cond.selects "FormulaShapes" ⟨"FormulaShapes", "signsOnBothSides", "(IIIIII)LFormulaShapes$Box;"⟩ ⟨"FormulaShapes", "signsOnBothSides", "(IIIIII)LFormulaShapes$Box;"⟩ ∈ lw_big := lw_bs (List.mem_of_getElem? (i := 22) (by decide +kernel)) (by decide +kernel)
theorem ws23 : Cond.selects "FormulaShapes" ⟨"FormulaShapes", "limitsShape", "(IIII)LFormulaShapes$Box;"⟩ ⟨"FormulaShapes", "limitsShape", "(IIII)LFormulaShapes$Box;"⟩ ∈ lw_big := lw_bs (List.mem_of_getElem? (i := 23) (by decide +kernel)) (by decide +kernel)
theorem ws24 : Cond.selects "FormulaShapes" ⟨"FormulaShapes", "bracketsLeast", "(II)I"⟩ ⟨"FormulaShapes", "bracketsLeast", "(II)I"⟩ ∈ lw_big := lw_bs (List.mem_of_getElem? (i := 24) (by decide +kernel)) (by decide +kernel)
theorem ws25 : Cond.selects "FormulaShapes" ⟨"FormulaShapes", "onAxis", "(II)I"⟩ ⟨"FormulaShapes", "onAxis", "(II)I"⟩ ∈ lw_big := lw_bs (List.mem_of_getElem? (i := 25) (by decide +kernel)) (by decide +kernel)
theorem ws26 : Cond.selects "FormulaShapesModel" ⟨"FormulaShapesModel", "make", "(III)I"⟩ ⟨"FormulaShapesModel", "make", "(III)I"⟩ ∈ lw_big := lw_bs (List.mem_of_getElem? (i := 26) (by decide +kernel)) (by decide +kernel)
theorem ws27 : Cond.selects "FormulaShapesModel" ⟨"FormulaShapesModel", "isBox", "(I)Z"⟩ ⟨"FormulaShapesModel", "isBox", "(I)Z"⟩ ∈ lw_big := lw_bs (List.mem_of_getElem? (i := 27) (by decide +kernel)) (by decide +kernel)
theorem ws28 : Cond.selects "FormulaShapesModel" ⟨"FormulaShapesModel", "isBoxOrNone", "(I)Z"⟩ ⟨"FormulaShapesModel", "isBoxOrNone", "(I)Z"⟩ ∈ lw_big := lw_bs (List.mem_of_getElem? (i := 28) (by decide +kernel)) (by decide +kernel)
theorem ws29 : Cond.selects "FormulaShapesModel" ⟨"FormulaShapesModel", "plan", "(II)I"⟩ ⟨"FormulaShapesModel", "plan", "(II)I"⟩ ∈ lw_big := lw_bs (List.mem_of_getElem? (i := 29) (by decide +kernel)) (by decide +kernel)
theorem ws30 : Cond.selects "FormulaShapesModel" ⟨"FormulaShapesModel", "tall", "(I)I"⟩ ⟨"FormulaShapesModel", "tall", "(I)I"⟩ ∈ lw_big := lw_bs (List.mem_of_getElem? (i := 30) (by decide +kernel)) (by decide +kernel)
theorem ws31 : Cond.selects "FormulaShapesModel" ⟨"FormulaShapesModel", "signBy", "(II)I"⟩ ⟨"FormulaShapesModel", "signBy", "(II)I"⟩ ∈ lw_big := lw_bs (List.mem_of_getElem? (i := 31) (by decide +kernel)) (by decide +kernel)
theorem ws32 : Cond.selects "FormulaShapesModel" ⟨"FormulaShapesModel", "repeats", "(II)I"⟩ ⟨"FormulaShapesModel", "repeats", "(II)I"⟩ ∈ lw_big := lw_bs (List.mem_of_getElem? (i := 32) (by decide +kernel)) (by decide +kernel)
theorem ws33 : Cond.selects "FormulaShapesModel" ⟨"FormulaShapesModel", "pile", "(I)V"⟩ ⟨"FormulaShapesModel", "pile", "(I)V"⟩ ∈ lw_big := lw_bs (List.mem_of_getElem? (i := 33) (by decide +kernel)) (by decide +kernel)
theorem ws34 : Cond.selects "FormulaShapesModel" ⟨"FormulaShapesModel", "lay", "(III)V"⟩ ⟨"FormulaShapesModel", "lay", "(III)V"⟩ ∈ lw_big := lw_bs (List.mem_of_getElem? (i := 34) (by decide +kernel)) (by decide +kernel)
theorem ws35 : Cond.selects "FormulaShapesModel" ⟨"FormulaShapesModel", "use", "(I)V"⟩ ⟨"FormulaShapesModel", "use", "(I)V"⟩ ∈ lw_big := lw_bs (List.mem_of_getElem? (i := 35) (by decide +kernel)) (by decide +kernel)
theorem ws36 : Cond.selects "FormulaShapesModel" ⟨"FormulaShapesModel", "p", "(I)I"⟩ ⟨"FormulaShapesModel", "p", "(I)I"⟩ ∈ lw_big := lw_bs (List.mem_of_getElem? (i := 36) (by decide +kernel)) (by decide +kernel)
theorem ws37 : Cond.selects "FormulaShapesModel" ⟨"FormulaShapesModel", "reach", "()V"⟩ ⟨"FormulaShapesModel", "reach", "()V"⟩ ∈ lw_big := lw_bs (List.mem_of_getElem? (i := 37) (by decide +kernel)) (by decide +kernel)
theorem inX0 : ∀ w ∈ u_ws RX0 TX0 6, w ∈ lw_big := by
  show ∀ w ∈ ([(Cond.laysFinal "FormulaShapes$Box" "FormulaShapes$Box" "width" "I"), (Cond.laysFinal "FormulaShapes$Box" "FormulaShapes$Box" "height" "I"), (Cond.laysFinal "FormulaShapes$Box" "FormulaShapes$Box" "depth" "I"), (Cond.laysFinal "FormulaShapes$Box" "FormulaShapes$Box" "places" "[I"), (Cond.laysFinal "FormulaShapes$Box" "FormulaShapes$Box" "ruleWidth" "I"), (Cond.laysFinal "FormulaShapes$Box" "FormulaShapes$Box" "ruleHeight" "I")] : List Cond), w ∈ lw_big
  exact List.forall_mem_cons.mpr ⟨wd240, List.forall_mem_cons.mpr ⟨wd242, List.forall_mem_cons.mpr ⟨wd244, List.forall_mem_cons.mpr ⟨wd246, List.forall_mem_cons.mpr ⟨wd248, List.forall_mem_cons.mpr ⟨wd250, fun _ h => absurd h List.not_mem_nil⟩⟩⟩⟩⟩⟩
theorem inX1 : ∀ w ∈ u_ws RX1 TX1 6, w ∈ lw_big := by
  show ∀ w ∈ ([(Cond.laysFinal "FormulaShapes$Family" "FormulaShapes$Family" "members" "[I"), (Cond.lays "FormulaShapes$Family" "FormulaShapes$Family" "count" "I"), (Cond.lays "FormulaShapes$Family" "FormulaShapes$Family" "upper" "I"), (Cond.lays "FormulaShapes$Family" "FormulaShapes$Family" "middle" "I"), (Cond.lays "FormulaShapes$Family" "FormulaShapes$Family" "lower" "I"), (Cond.lays "FormulaShapes$Family" "FormulaShapes$Family" "repeated" "I")] : List Cond), w ∈ lw_big
  exact List.forall_mem_cons.mpr ⟨wd42, List.forall_mem_cons.mpr ⟨wd44, List.forall_mem_cons.mpr ⟨wd46, List.forall_mem_cons.mpr ⟨wd48, List.forall_mem_cons.mpr ⟨wd50, List.forall_mem_cons.mpr ⟨wd52, fun _ h => absurd h List.not_mem_nil⟩⟩⟩⟩⟩⟩
theorem inX2 : ∀ w ∈ u_ws RX2 TX2 4, w ∈ lw_big := by
  show ∀ w ∈ ([(Cond.laysFinal "FormulaShapes$Pile" "FormulaShapes$Pile" "places" "[I"), (Cond.lays "FormulaShapes$Pile" "FormulaShapes$Pile" "filled" "I"), (Cond.lays "FormulaShapes$Pile" "FormulaShapes$Pile" "top" "I"), (Cond.lays "FormulaShapes$Pile" "FormulaShapes$Pile" "width" "I")] : List Cond), w ∈ lw_big
  exact List.forall_mem_cons.mpr ⟨wd346, List.forall_mem_cons.mpr ⟨wd348, List.forall_mem_cons.mpr ⟨wd350, List.forall_mem_cons.mpr ⟨wd352, fun _ h => absurd h List.not_mem_nil⟩⟩⟩⟩
theorem inX3 : ∀ w ∈ u_ws RX3 TX3 6, w ∈ lw_big := by
  show ∀ w ∈ ([(Cond.laysFinal "FormulaShapes" "FormulaShapes" "made" "[LFormulaShapes$Box;"), (Cond.lays "FormulaShapes" "FormulaShapes" "count" "I"), (Cond.laysFinal "FormulaShapes" "FormulaShapes" "families" "[LFormulaShapes$Family;"), (Cond.laysFinal "FormulaShapes" "FormulaShapes" "parameters" "[I"), (Cond.lays "FormulaShapes" "FormulaShapes" "space" "I"), (Cond.lays "FormulaShapes" "FormulaShapes" "shortBy" "I")] : List Cond), w ∈ lw_big
  exact List.forall_mem_cons.mpr ⟨wd62, List.forall_mem_cons.mpr ⟨wd64, List.forall_mem_cons.mpr ⟨wd66, List.forall_mem_cons.mpr ⟨wd68, List.forall_mem_cons.mpr ⟨wd70, List.forall_mem_cons.mpr ⟨wd72, fun _ h => absurd h List.not_mem_nil⟩⟩⟩⟩⟩⟩
theorem inX4 : ∀ w ∈ u_ws RX4 TX4 21, w ∈ lw_big := by
  show ∀ w ∈ ([(Cond.lays "FormulaShapesModel" "FormulaShapesModel" "thrown" "I"), (Cond.laysFinal "FormulaShapesModel" "FormulaShapesModel" "parameters" "[I"), (Cond.lays "FormulaShapesModel" "FormulaShapesModel" "space" "I"), (Cond.lays "FormulaShapesModel" "FormulaShapesModel" "less" "I"), (Cond.lays "FormulaShapesModel" "FormulaShapesModel" "boxes" "I"), (Cond.laysFinal "FormulaShapesModel" "FormulaShapesModel" "widths" "[I"), (Cond.laysFinal "FormulaShapesModel" "FormulaShapesModel" "heights" "[I"), (Cond.laysFinal "FormulaShapesModel" "FormulaShapesModel" "depths" "[I"), (Cond.laysFinal "FormulaShapesModel" "FormulaShapesModel" "begins" "[I"), (Cond.laysFinal "FormulaShapesModel" "FormulaShapesModel" "many" "[I"), (Cond.laysFinal "FormulaShapesModel" "FormulaShapesModel" "ruleWidth" "[I"), (Cond.laysFinal "FormulaShapesModel" "FormulaShapesModel" "ruleHeight" "[I"), (Cond.lays "FormulaShapesModel" "FormulaShapesModel" "parts" "I"), (Cond.laysFinal "FormulaShapesModel" "FormulaShapesModel" "partBox" "[I"), (Cond.laysFinal "FormulaShapesModel" "FormulaShapesModel" "partX" "[I"), (Cond.laysFinal "FormulaShapesModel" "FormulaShapesModel" "partY" "[I"), (Cond.laysFinal "FormulaShapesModel" "FormulaShapesModel" "signs" "[I"), (Cond.laysFinal "FormulaShapesModel" "FormulaShapesModel" "signBox" "[I"), (Cond.laysFinal "FormulaShapesModel" "FormulaShapesModel" "hasPieces" "[Z"), (Cond.laysFinal "FormulaShapesModel" "FormulaShapesModel" "piece" "[I"), (Cond.lays "FormulaShapesModel" "FormulaShapesModel" "size" "I")] : List Cond), w ∈ lw_big
  exact List.forall_mem_cons.mpr ⟨wd545, List.forall_mem_cons.mpr ⟨wd547, List.forall_mem_cons.mpr ⟨wd549, List.forall_mem_cons.mpr ⟨wd551, List.forall_mem_cons.mpr ⟨wd553, List.forall_mem_cons.mpr ⟨wd555, List.forall_mem_cons.mpr ⟨wd557, List.forall_mem_cons.mpr ⟨wd559, List.forall_mem_cons.mpr ⟨wd561, List.forall_mem_cons.mpr ⟨wd563, List.forall_mem_cons.mpr ⟨wd565, List.forall_mem_cons.mpr ⟨wd567, List.forall_mem_cons.mpr ⟨wd569, List.forall_mem_cons.mpr ⟨wd571, List.forall_mem_cons.mpr ⟨wd573, List.forall_mem_cons.mpr ⟨wd575, List.forall_mem_cons.mpr ⟨wd577, List.forall_mem_cons.mpr ⟨wd579, List.forall_mem_cons.mpr ⟨wd581, List.forall_mem_cons.mpr ⟨wd583, List.forall_mem_cons.mpr ⟨wd585, fun _ h => absurd h List.not_mem_nil⟩⟩⟩⟩⟩⟩⟩⟩⟩⟩⟩⟩⟩⟩⟩⟩⟩⟩⟩⟩⟩
