/-! NAMES, printed by wip/whole/names.py: classes, fields, methods, the one list of words lw_big (the good ones of lw_tbl) and a row for each of them -/
def RX0 : String := "FormulaShapes$Box"
def TX0 : u_T := fun k => match k with
  | 0 => ("FormulaShapes$Box", "width", "I", true)
  | 1 => ("FormulaShapes$Box", "height", "I", true)
  | 2 => ("FormulaShapes$Box", "depth", "I", true)
  | 3 => ("FormulaShapes$Box", "places", "[I", true)
  | 4 => ("FormulaShapes$Box", "ruleWidth", "I", true)
  | _ => ("FormulaShapes$Box", "ruleHeight", "I", true)
def tyX0 : Nat → FieldType := fun k => match k with
  | 0 => .int
  | 1 => .int
  | 2 => .int
  | 3 => .array (.int)
  | 4 => .int
  | _ => .int
theorem nmX0 : ∀ a, a < 6 → ∀ b, b < 6 → a ≠ b → (TX0 a).2.1 ≠ (TX0 b).2.1 := by decide +kernel
theorem tyX0_ok : ∀ k, k < 6 → parseFieldDescriptor (TX0 k).2.2.1 = some (tyX0 k) := by decide +kernel
def RX1 : String := "FormulaShapes$Family"
def TX1 : u_T := fun k => match k with
  | 0 => ("FormulaShapes$Family", "members", "[I", true)
  | 1 => ("FormulaShapes$Family", "count", "I", false)
  | 2 => ("FormulaShapes$Family", "upper", "I", false)
  | 3 => ("FormulaShapes$Family", "middle", "I", false)
  | 4 => ("FormulaShapes$Family", "lower", "I", false)
  | _ => ("FormulaShapes$Family", "repeated", "I", false)
def tyX1 : Nat → FieldType := fun k => match k with
  | 0 => .array (.int)
  | 1 => .int
  | 2 => .int
  | 3 => .int
  | 4 => .int
  | _ => .int
theorem nmX1 : ∀ a, a < 6 → ∀ b, b < 6 → a ≠ b → (TX1 a).2.1 ≠ (TX1 b).2.1 := by decide +kernel
theorem tyX1_ok : ∀ k, k < 6 → parseFieldDescriptor (TX1 k).2.2.1 = some (tyX1 k) := by decide +kernel
def RX2 : String := "FormulaShapes$Pile"
def TX2 : u_T := fun k => match k with
  | 0 => ("FormulaShapes$Pile", "places", "[I", true)
  | 1 => ("FormulaShapes$Pile", "filled", "I", false)
  | 2 => ("FormulaShapes$Pile", "top", "I", false)
  | _ => ("FormulaShapes$Pile", "width", "I", false)
def tyX2 : Nat → FieldType := fun k => match k with
  | 0 => .array (.int)
  | 1 => .int
  | 2 => .int
  | _ => .int
theorem nmX2 : ∀ a, a < 4 → ∀ b, b < 4 → a ≠ b → (TX2 a).2.1 ≠ (TX2 b).2.1 := by decide +kernel
theorem tyX2_ok : ∀ k, k < 4 → parseFieldDescriptor (TX2 k).2.2.1 = some (tyX2 k) := by decide +kernel
def RX3 : String := "FormulaShapes"
def TX3 : u_T := fun k => match k with
  | 0 => ("FormulaShapes", "made", "[LFormulaShapes$Box;", true)
  | 1 => ("FormulaShapes", "count", "I", false)
  | 2 => ("FormulaShapes", "families", "[LFormulaShapes$Family;", true)
  | 3 => ("FormulaShapes", "parameters", "[I", true)
  | 4 => ("FormulaShapes", "space", "I", false)
  | _ => ("FormulaShapes", "shortBy", "I", false)
def tyX3 : Nat → FieldType := fun k => match k with
  | 0 => .array (.object "FormulaShapes$Box")
  | 1 => .int
  | 2 => .array (.object "FormulaShapes$Family")
  | 3 => .array (.int)
  | 4 => .int
  | _ => .int
theorem nmX3 : ∀ a, a < 6 → ∀ b, b < 6 → a ≠ b → (TX3 a).2.1 ≠ (TX3 b).2.1 := by decide +kernel
theorem tyX3_ok : ∀ k, k < 6 → parseFieldDescriptor (TX3 k).2.2.1 = some (tyX3 k) := by decide +kernel
def RX4 : String := "FormulaShapesModel"
def TX4 : u_T := fun k => match k with
  | 0 => ("FormulaShapesModel", "thrown", "I", false)
  | 1 => ("FormulaShapesModel", "parameters", "[I", true)
  | 2 => ("FormulaShapesModel", "space", "I", false)
  | 3 => ("FormulaShapesModel", "less", "I", false)
  | 4 => ("FormulaShapesModel", "boxes", "I", false)
  | 5 => ("FormulaShapesModel", "widths", "[I", true)
  | 6 => ("FormulaShapesModel", "heights", "[I", true)
  | 7 => ("FormulaShapesModel", "depths", "[I", true)
  | 8 => ("FormulaShapesModel", "begins", "[I", true)
  | 9 => ("FormulaShapesModel", "many", "[I", true)
  | 10 => ("FormulaShapesModel", "ruleWidth", "[I", true)
  | 11 => ("FormulaShapesModel", "ruleHeight", "[I", true)
  | 12 => ("FormulaShapesModel", "parts", "I", false)
  | 13 => ("FormulaShapesModel", "partBox", "[I", true)
  | 14 => ("FormulaShapesModel", "partX", "[I", true)
  | 15 => ("FormulaShapesModel", "partY", "[I", true)
  | 16 => ("FormulaShapesModel", "signs", "[I", true)
  | 17 => ("FormulaShapesModel", "signBox", "[I", true)
  | 18 => ("FormulaShapesModel", "hasPieces", "[Z", true)
  | 19 => ("FormulaShapesModel", "piece", "[I", true)
  | _ => ("FormulaShapesModel", "size", "I", false)
def tyX4 : Nat → FieldType := fun k => match k with
  | 0 => .int
  | 1 => .array (.int)
  | 2 => .int
  | 3 => .int
  | 4 => .int
  | 5 => .array (.int)
  | 6 => .array (.int)
  | 7 => .array (.int)
  | 8 => .array (.int)
  | 9 => .array (.int)
  | 10 => .array (.int)
  | 11 => .array (.int)
  | 12 => .int
  | 13 => .array (.int)
  | 14 => .array (.int)
  | 15 => .array (.int)
  | 16 => .array (.int)
  | 17 => .array (.int)
  | 18 => .array (.boolean)
  | 19 => .array (.int)
  | _ => .int
theorem nmX4 : ∀ a, a < 21 → ∀ b, b < 21 → a ≠ b → (TX4 a).2.1 ≠ (TX4 b).2.1 := by decide +kernel
theorem tyX4_ok : ∀ k, k < 21 → parseFieldDescriptor (TX4 k).2.2.1 = some (tyX4 k) := by decide +kernel
def RL : String := "FormulaShapesLaw"
abbrev gx_cl : List vw_C := [(RX0, TX0, 6), (RX1, TX1, 6), (RX2, TX2, 4), (RX3, TX3, 6), (RX4, TX4, 21)]
abbrev cX3_init : ByteArray := prog_1_method_1_code
def yX3_init : MethodName := ⟨RX3, "<init>", "()V"⟩
abbrev cX3_parameter : ByteArray := prog_1_method_2_code
def yX3_parameter : MethodName := ⟨RX3, "parameter", "(III)I"⟩
abbrev cX3_set : ByteArray := prog_1_method_3_code
def yX3_set : MethodName := ⟨RX3, "set", "(II)I"⟩
abbrev cX3_box : ByteArray := prog_1_method_4_code
def yX3_box : MethodName := ⟨RX3, "box", "(III)I"⟩
abbrev cX3_sign : ByteArray := prog_1_method_5_code
def yX3_sign : MethodName := ⟨RX3, "sign", "(II)I"⟩
abbrev cX3_pieces : ByteArray := prog_1_method_6_code
def yX3_pieces : MethodName := ⟨RX3, "pieces", "(IIIII)V"⟩
abbrev cX3_signOf : ByteArray := prog_1_method_7_code
def yX3_signOf : MethodName := ⟨RX3, "signOf", "(II)I"⟩
abbrev cX3_fraction : ByteArray := prog_1_method_8_code
def yX3_fraction : MethodName := ⟨RX3, "fraction", "(IIII)I"⟩
abbrev cX3_root : ByteArray := prog_1_method_9_code
def yX3_root : MethodName := ⟨RX3, "root", "(III)I"⟩
abbrev cX3_signs : ByteArray := prog_1_method_10_code
def yX3_signs : MethodName := ⟨RX3, "signs", "(IZIZII)I"⟩
abbrev cX3_limits : ByteArray := prog_1_method_11_code
def yX3_limits : MethodName := ⟨RX3, "limits", "(IIII)I"⟩
abbrev cX3_brackets : ByteArray := prog_1_method_12_code
def yX3_brackets : MethodName := ⟨RX3, "brackets", "(IIII)I"⟩
abbrev cX3_row : ByteArray := prog_1_method_13_code
def yX3_row : MethodName := ⟨RX3, "row", "(III)I"⟩
abbrev cX3_centre : ByteArray := prog_1_method_14_code
def yX3_centre : MethodName := ⟨RX3, "centre", "(II)I"⟩
abbrev cX3_told : ByteArray := prog_1_method_15_code
def yX3_told : MethodName := ⟨RX3, "told", "(II)I"⟩
abbrev cX3_part : ByteArray := prog_1_method_16_code
def yX3_part : MethodName := ⟨RX3, "part", "(III)I"⟩
abbrev cX3_boxes : ByteArray := prog_1_method_17_code
def yX3_boxes : MethodName := ⟨RX3, "boxes", "()I"⟩
abbrev cX3_needBox : ByteArray := prog_1_method_18_code
def yX3_needBox : MethodName := ⟨RX3, "needBox", "(I)V"⟩
abbrev cX3_needBoxOrNone : ByteArray := prog_1_method_19_code
def yX3_needBoxOrNone : MethodName := ⟨RX3, "needBoxOrNone", "(I)V"⟩
abbrev cX3_needFamily : ByteArray := prog_1_method_20_code
def yX3_needFamily : MethodName := ⟨RX3, "needFamily", "(I)V"⟩
abbrev cX3_needStyle : ByteArray := prog_1_method_21_code
def yX3_needStyle : MethodName := ⟨RX3, "needStyle", "(I)V"⟩
abbrev cX3_needWithin : ByteArray := prog_1_method_22_code
def yX3_needWithin : MethodName := ⟨RX3, "needWithin", "(III)V"⟩
abbrev cX3_needOneOf : ByteArray := prog_1_method_23_code
def yX3_needOneOf : MethodName := ⟨RX3, "needOneOf", "(II)V"⟩
abbrev cX3_needSign : ByteArray := prog_1_method_24_code
def yX3_needSign : MethodName := ⟨RX3, "needSign", "(LFormulaShapes$Family;)V"⟩
abbrev cX3_needRoom : ByteArray := prog_1_method_25_code
def yX3_needRoom : MethodName := ⟨RX3, "needRoom", "(I)V"⟩
abbrev cX3_keep : ByteArray := prog_1_method_26_code
def yX3_keep : MethodName := ⟨RX3, "keep", "(LFormulaShapes$Box;)I"⟩
abbrev cX3_widthOf : ByteArray := prog_1_method_27_code
def yX3_widthOf : MethodName := ⟨RX3, "widthOf", "(I)I"⟩
abbrev cX3_heightOf : ByteArray := prog_1_method_28_code
def yX3_heightOf : MethodName := ⟨RX3, "heightOf", "(I)I"⟩
abbrev cX3_depthOf : ByteArray := prog_1_method_29_code
def yX3_depthOf : MethodName := ⟨RX3, "depthOf", "(I)I"⟩
abbrev cX3_extentOf : ByteArray := prog_1_method_30_code
def yX3_extentOf : MethodName := ⟨RX3, "extentOf", "(I)I"⟩
abbrev cX3_valueOf : ByteArray := prog_1_method_31_code
def yX3_valueOf : MethodName := ⟨RX3, "valueOf", "(II)I"⟩
abbrev cX3_half : ByteArray := prog_1_method_32_code
def yX3_half : MethodName := ⟨RX3, "half", "(I)I"⟩
abbrev cX3_onAxis : ByteArray := prog_1_method_33_code
def yX3_onAxis : MethodName := ⟨RX3, "onAxis", "(II)I"⟩
abbrev cX3_enclosing : ByteArray := prog_1_method_34_code
def yX3_enclosing : MethodName := ⟨RX3, "enclosing", "(I[I)LFormulaShapes$Box;"⟩
abbrev cX3_readySign : ByteArray := prog_1_method_35_code
def yX3_readySign : MethodName := ⟨RX3, "readySign", "(LFormulaShapes$Family;I)I"⟩
abbrev cX3_newBoxesFor : ByteArray := prog_1_method_36_code
def yX3_newBoxesFor : MethodName := ⟨RX3, "newBoxesFor", "(I)I"⟩
abbrev cX3_keptSign : ByteArray := prog_1_method_37_code
def yX3_keptSign : MethodName := ⟨RX3, "keptSign", "(LFormulaShapes$Family;II)I"⟩
abbrev cX3_putTogether : ByteArray := prog_1_method_38_code
def yX3_putTogether : MethodName := ⟨RX3, "putTogether", "(LFormulaShapes$Family;I)LFormulaShapes$Box;"⟩
abbrev cX3_oneIfThere : ByteArray := prog_1_method_39_code
def yX3_oneIfThere : MethodName := ⟨RX3, "oneIfThere", "(I)I"⟩
abbrev cX3_pileUp : ByteArray := prog_1_method_40_code
def yX3_pileUp : MethodName := ⟨RX3, "pileUp", "(LFormulaShapes$Pile;II)V"⟩
abbrev cX3_fractionBare : ByteArray := prog_1_method_41_code
def yX3_fractionBare : MethodName := ⟨RX3, "fractionBare", "(III)LFormulaShapes$Box;"⟩
abbrev cX3_fractionWithLine : ByteArray := prog_1_method_42_code
def yX3_fractionWithLine : MethodName := ⟨RX3, "fractionWithLine", "(IIII)LFormulaShapes$Box;"⟩
abbrev cX3_rootClearance : ByteArray := prog_1_method_43_code
def yX3_rootClearance : MethodName := ⟨RX3, "rootClearance", "(I)I"⟩
abbrev cX3_rootShape : ByteArray := prog_1_method_44_code
def yX3_rootShape : MethodName := ⟨RX3, "rootShape", "(IIIZ)LFormulaShapes$Box;"⟩
abbrev cX3_upShift : ByteArray := prog_1_method_45_code
def yX3_upShift : MethodName := ⟨RX3, "upShift", "(IZII)I"⟩
abbrev cX3_downAlone : ByteArray := prog_1_method_46_code
def yX3_downAlone : MethodName := ⟨RX3, "downAlone", "(III)I"⟩
abbrev cX3_fourFifths : ByteArray := prog_1_method_47_code
def yX3_fourFifths : MethodName := ⟨RX3, "fourFifths", "(I)I"⟩
abbrev cX3_signsOnBothSides : ByteArray := prog_1_method_48_code
def yX3_signsOnBothSides : MethodName := ⟨RX3, "signsOnBothSides", "(IIIIII)LFormulaShapes$Box;"⟩
abbrev cX3_limitsShape : ByteArray := prog_1_method_49_code
def yX3_limitsShape : MethodName := ⟨RX3, "limitsShape", "(IIII)LFormulaShapes$Box;"⟩
abbrev cX3_bracketsLeast : ByteArray := prog_1_method_50_code
def yX3_bracketsLeast : MethodName := ⟨RX3, "bracketsLeast", "(II)I"⟩
abbrev cX4_init : ByteArray := prog_6_method_1_code
def yX4_init : MethodName := ⟨RX4, "<init>", "()V"⟩
abbrev cX4_thrown : ByteArray := prog_6_method_2_code
def yX4_thrown : MethodName := ⟨RX4, "thrown", "()I"⟩
abbrev cX4_in : ByteArray := prog_6_method_3_code
def yX4_in : MethodName := ⟨RX4, "in", "(III)Z"⟩
abbrev cX4_half : ByteArray := prog_6_method_4_code
def yX4_half : MethodName := ⟨RX4, "half", "(I)I"⟩
abbrev cX4_abs : ByteArray := prog_6_method_5_code
def yX4_abs : MethodName := ⟨RX4, "abs", "(I)I"⟩
abbrev cX4_greater : ByteArray := prog_6_method_6_code
def yX4_greater : MethodName := ⟨RX4, "greater", "(II)I"⟩
abbrev cX4_isBox : ByteArray := prog_6_method_7_code
def yX4_isBox : MethodName := ⟨RX4, "isBox", "(I)Z"⟩
abbrev cX4_isBoxOrNone : ByteArray := prog_6_method_8_code
def yX4_isBoxOrNone : MethodName := ⟨RX4, "isBoxOrNone", "(I)Z"⟩
abbrev cX4_isFamily : ByteArray := prog_6_method_9_code
def yX4_isFamily : MethodName := ⟨RX4, "isFamily", "(I)Z"⟩
abbrev cX4_isStyle : ByteArray := prog_6_method_10_code
def yX4_isStyle : MethodName := ⟨RX4, "isStyle", "(I)Z"⟩
abbrev cX4_p : ByteArray := prog_6_method_11_code
def yX4_p : MethodName := ⟨RX4, "p", "(I)I"⟩
abbrev cX4_use : ByteArray := prog_6_method_12_code
def yX4_use : MethodName := ⟨RX4, "use", "(I)V"⟩
abbrev cX4_parameter : ByteArray := prog_6_method_13_code
def yX4_parameter : MethodName := ⟨RX4, "parameter", "(III)I"⟩
abbrev cX4_set : ByteArray := prog_6_method_14_code
def yX4_set : MethodName := ⟨RX4, "set", "(II)I"⟩
abbrev cX4_make : ByteArray := prog_6_method_15_code
def yX4_make : MethodName := ⟨RX4, "make", "(III)I"⟩
abbrev cX4_lay : ByteArray := prog_6_method_16_code
def yX4_lay : MethodName := ⟨RX4, "lay", "(III)V"⟩
abbrev cX4_box : ByteArray := prog_6_method_17_code
def yX4_box : MethodName := ⟨RX4, "box", "(III)I"⟩
abbrev cX4_sign : ByteArray := prog_6_method_18_code
def yX4_sign : MethodName := ⟨RX4, "sign", "(II)I"⟩
abbrev cX4_pieces : ByteArray := prog_6_method_19_code
def yX4_pieces : MethodName := ⟨RX4, "pieces", "(IIIII)V"⟩
abbrev cX4_tall : ByteArray := prog_6_method_20_code
def yX4_tall : MethodName := ⟨RX4, "tall", "(I)I"⟩
abbrev cX4_plan : ByteArray := prog_6_method_21_code
def yX4_plan : MethodName := ⟨RX4, "plan", "(II)I"⟩
abbrev cX4_repeats : ByteArray := prog_6_method_22_code
def yX4_repeats : MethodName := ⟨RX4, "repeats", "(II)I"⟩
abbrev cX4_pile : ByteArray := prog_6_method_23_code
def yX4_pile : MethodName := ⟨RX4, "pile", "(I)V"⟩
abbrev cX4_signBy : ByteArray := prog_6_method_24_code
def yX4_signBy : MethodName := ⟨RX4, "signBy", "(II)I"⟩
abbrev cX4_signOf : ByteArray := prog_6_method_25_code
def yX4_signOf : MethodName := ⟨RX4, "signOf", "(II)I"⟩
abbrev cX4_fraction : ByteArray := prog_6_method_26_code
def yX4_fraction : MethodName := ⟨RX4, "fraction", "(IIII)I"⟩
abbrev cX4_root : ByteArray := prog_6_method_27_code
def yX4_root : MethodName := ⟨RX4, "root", "(III)I"⟩
abbrev cX4_signs : ByteArray := prog_6_method_28_code
def yX4_signs : MethodName := ⟨RX4, "signs", "(IZIZII)I"⟩
abbrev cX4_limits : ByteArray := prog_6_method_29_code
def yX4_limits : MethodName := ⟨RX4, "limits", "(IIII)I"⟩
abbrev cX4_reach : ByteArray := prog_6_method_30_code
def yX4_reach : MethodName := ⟨RX4, "reach", "()V"⟩
abbrev cX4_brackets : ByteArray := prog_6_method_31_code
def yX4_brackets : MethodName := ⟨RX4, "brackets", "(IIII)I"⟩
abbrev cX4_row : ByteArray := prog_6_method_32_code
def yX4_row : MethodName := ⟨RX4, "row", "(III)I"⟩
abbrev cX4_centre : ByteArray := prog_6_method_33_code
def yX4_centre : MethodName := ⟨RX4, "centre", "(II)I"⟩
abbrev cX4_told : ByteArray := prog_6_method_34_code
def yX4_told : MethodName := ⟨RX4, "told", "(II)I"⟩
abbrev cX4_part : ByteArray := prog_6_method_35_code
def yX4_part : MethodName := ⟨RX4, "part", "(III)I"⟩
abbrev cX4_boxes : ByteArray := prog_6_method_36_code
def yX4_boxes : MethodName := ⟨RX4, "boxes", "()I"⟩
abbrev cX0_init_0 : ByteArray := prog_2_method_1_code
def yX0_init_0 : MethodName := ⟨RX0, "<init>", "(III[I)V"⟩
abbrev cX0_init_1 : ByteArray := prog_2_method_2_code
def yX0_init_1 : MethodName := ⟨RX0, "<init>", "(III[III)V"⟩
abbrev cX1_init : ByteArray := prog_3_method_1_code
def yX1_init : MethodName := ⟨RX1, "<init>", "()V"⟩
abbrev cX2_init : ByteArray := prog_4_method_1_code
def yX2_init : MethodName := ⟨RX2, "<init>", "(I)V"⟩
abbrev cX2_put : ByteArray := prog_4_method_2_code
def yX2_put : MethodName := ⟨RX2, "put", "(ILFormulaShapes$Box;)V"⟩
abbrev cX2_asBox : ByteArray := prog_4_method_3_code
def yX2_asBox : MethodName := ⟨RX2, "asBox", "()LFormulaShapes$Box;"⟩
abbrev cL_parameter : ByteArray := method_3_code
def yL_parameter : MethodName := ⟨RL, "parameter", "(LFormulaShapes;III[J)I"⟩
abbrev cL_set : ByteArray := method_4_code
def yL_set : MethodName := ⟨RL, "set", "(LFormulaShapes;II[J)I"⟩
abbrev cL_box : ByteArray := method_5_code
def yL_box : MethodName := ⟨RL, "box", "(LFormulaShapes;III[J)I"⟩
abbrev cL_sign : ByteArray := method_6_code
def yL_sign : MethodName := ⟨RL, "sign", "(LFormulaShapes;II[J)I"⟩
abbrev cL_pieces : ByteArray := method_7_code
def yL_pieces : MethodName := ⟨RL, "pieces", "(LFormulaShapes;IIIII)I"⟩
abbrev cL_signOf : ByteArray := method_8_code
def yL_signOf : MethodName := ⟨RL, "signOf", "(LFormulaShapes;II[J)I"⟩
abbrev cL_fraction : ByteArray := method_9_code
def yL_fraction : MethodName := ⟨RL, "fraction", "(LFormulaShapes;IIII[J)I"⟩
abbrev cL_root : ByteArray := method_10_code
def yL_root : MethodName := ⟨RL, "root", "(LFormulaShapes;III[J)I"⟩
abbrev cL_signs : ByteArray := method_11_code
def yL_signs : MethodName := ⟨RL, "signs", "(LFormulaShapes;IZIZII[J)I"⟩
abbrev cL_limits : ByteArray := method_12_code
def yL_limits : MethodName := ⟨RL, "limits", "(LFormulaShapes;IIII[J)I"⟩
abbrev cL_brackets : ByteArray := method_13_code
def yL_brackets : MethodName := ⟨RL, "brackets", "(LFormulaShapes;IIII[J)I"⟩
abbrev cL_row : ByteArray := method_14_code
def yL_row : MethodName := ⟨RL, "row", "(LFormulaShapes;III[J)I"⟩
abbrev cL_centre : ByteArray := method_15_code
def yL_centre : MethodName := ⟨RL, "centre", "(LFormulaShapes;II[J)I"⟩
abbrev cL_told : ByteArray := method_16_code
def yL_told : MethodName := ⟨RL, "told", "(LFormulaShapes;II[J)I"⟩
abbrev cL_part : ByteArray := method_17_code
def yL_part : MethodName := ⟨RL, "part", "(LFormulaShapes;III[J)I"⟩
abbrev cL_law : ByteArray := code
def gx_ok (w : Cond) : Bool := match w with
  | .declares _ => true
  | .castable _ _ => true
  | w => goodWord w
theorem gx_word {args a' : Array Value} {s U : State} (hW : s.WarmedH U.vm) {w : Cond} (hg : gx_ok w = true) (h : w.before args s = true) : w.before a' U = true := by
  by_cases g : goodWord w = true
  · exact word_at hW (good_of_word g) h
  · cases w with
    | declares x =>
      have h1 := Cond.before_warmed (args := args) hW (.declares x) trivial h
      rw [Cond.onTables_vm (A' := a') (U' := U) U.vm (.declares x) rfl] at h1
      rwa [State.setVm_self] at h1
    | castable x y =>
      have h1 := Cond.before_warmed (args := args) hW (.castable x y) trivial h
      rw [Cond.onTables_vm (A' := a') (U' := U) U.vm (.castable x y) rfl] at h1
      rwa [State.setVm_self] at h1
    | _ => exact absurd hg g
def lw_big : List Cond := lw_tbl.filter gx_ok
/-- the words of a method: its code, and all the good words -/
theorem gx_hws {args : Array Value} {s : State} (htb : ∀ w ∈ lw_big, w.before args s = true) {c0 : Cond} (hc : c0 ∈ lw_big) : ∀ w ∈ c0 :: lw_big, ∀ (a' : Array Value) (U : State), s.WarmedH U.vm → w.before a' U = true := by
  intro w hw a' U hW
  have hm : w ∈ lw_big := by
    rcases List.mem_cons.mp hw with rfl | h
    · exact hc
    · exact h
  exact gx_word hW (List.mem_filter.mp hm).2 (htb w hm)
theorem lw_bg {w : Cond} (h : w ∈ tables_1) (g : gx_ok w = true) : w ∈ lw_big := List.mem_filter.mpr ⟨List.mem_append_right _ h, g⟩
theorem lw_bs {w : Cond} (h : w ∈ k2_sels lw_privs) (g : gx_ok w = true) : w ∈ lw_big := List.mem_filter.mpr ⟨List.mem_append_left _ h, g⟩
theorem lw_m1 {w : Cond} (h : w ∈ tables_1_1) : w ∈ tables_1 := List.mem_append_left _ h
theorem lw_m2 {w : Cond} (h : w ∈ tables_1_2) : w ∈ tables_1 := List.mem_append_right _ (List.mem_append_left _ h)
theorem lw_m3 {w : Cond} (h : w ∈ tables_1_3) : w ∈ tables_1 := List.mem_append_right _ (List.mem_append_right _ (List.mem_append_left _ h))
theorem lw_m4 {w : Cond} (h : w ∈ tables_1_4) : w ∈ tables_1 := List.mem_append_right _ (List.mem_append_right _ (List.mem_append_right _ h))
theorem wd0 : (Jvm.Cond.initialized "FormulaShapesLaw") ∈ lw_big := lw_bg (lw_m1 (List.mem_of_getElem? (l := tables_1_1) (i := 0) rfl)) rfl
theorem wd1 : (Jvm.Cond.initialized "FormulaShapes") ∈ lw_big := lw_bg (lw_m1 (List.mem_of_getElem? (l := tables_1_1) (i := 1) rfl)) rfl
theorem wd2 : (Jvm.Cond.initialized "FormulaShapes$Family") ∈ lw_big := lw_bg (lw_m1 (List.mem_of_getElem? (l := tables_1_1) (i := 2) rfl)) rfl
theorem wd3 : (Jvm.Cond.initialized "FormulaShapesModel") ∈ lw_big := lw_bg (lw_m1 (List.mem_of_getElem? (l := tables_1_1) (i := 3) rfl)) rfl
theorem wd4 : (Jvm.Cond.initialized "java/lang/Throwable") ∈ lw_big := lw_bg (lw_m1 (List.mem_of_getElem? (l := tables_1_1) (i := 4) rfl)) rfl
theorem wd5 : (Jvm.Cond.initialized "java/lang/Exception") ∈ lw_big := lw_bg (lw_m1 (List.mem_of_getElem? (l := tables_1_1) (i := 5) rfl)) rfl
theorem wd6 : (Jvm.Cond.initialized "java/lang/RuntimeException") ∈ lw_big := lw_bg (lw_m1 (List.mem_of_getElem? (l := tables_1_1) (i := 6) rfl)) rfl
theorem wd7 : (Jvm.Cond.initialized "java/lang/IndexOutOfBoundsException") ∈ lw_big := lw_bg (lw_m1 (List.mem_of_getElem? (l := tables_1_1) (i := 7) rfl)) rfl
theorem wd8 : (Jvm.Cond.initialized "java/lang/IllegalArgumentException") ∈ lw_big := lw_bg (lw_m1 (List.mem_of_getElem? (l := tables_1_1) (i := 8) rfl)) rfl
theorem wd9 : (Jvm.Cond.initialized "java/lang/UnsupportedOperationException") ∈ lw_big := lw_bg (lw_m1 (List.mem_of_getElem? (l := tables_1_1) (i := 9) rfl)) rfl
theorem wd10 : (Jvm.Cond.initialized "FormulaShapes$Box") ∈ lw_big := lw_bg (lw_m1 (List.mem_of_getElem? (l := tables_1_1) (i := 10) rfl)) rfl
theorem wd11 : (Jvm.Cond.initialized "java/lang/IllegalStateException") ∈ lw_big := lw_bg (lw_m1 (List.mem_of_getElem? (l := tables_1_1) (i := 11) rfl)) rfl
theorem wd12 : (Jvm.Cond.initialized "FormulaShapes$Pile") ∈ lw_big := lw_bg (lw_m1 (List.mem_of_getElem? (l := tables_1_1) (i := 12) rfl)) rfl
theorem wd13 : (Jvm.Cond.initialized "java/lang/Math") ∈ lw_big := lw_bg (lw_m1 (List.mem_of_getElem? (l := tables_1_1) (i := 13) rfl)) rfl
theorem wd14 : (Jvm.Cond.classLink "FormulaShapesLaw" (8 : Nat) "FormulaShapes") ∈ lw_big := lw_bg (lw_m1 (List.mem_of_getElem? (l := tables_1_1) (i := 14) rfl)) rfl
theorem wd15 : (Jvm.Cond.instantiable "FormulaShapes" (6 : Nat)) ∈ lw_big := lw_bg (lw_m1 (List.mem_of_getElem? (l := tables_1_1) (i := 15) rfl)) rfl
theorem wd16 : (Jvm.Cond.methodLink "FormulaShapesLaw" (67 : Nat) ({ cls := "FormulaShapes", name := "<init>", desc := "()V" } : Jvm.MethodName)) ∈ lw_big := lw_bg (lw_m1 (List.mem_of_getElem? (l := tables_1_1) (i := 16) rfl)) rfl
theorem wd17 : (Jvm.Cond.instanceMethod ({ cls := "FormulaShapes", name := "<init>", desc := "()V" } : Jvm.MethodName)) ∈ lw_big := lw_bg (lw_m1 (List.mem_of_getElem? (l := tables_1_1) (i := 17) rfl)) rfl
theorem wd18 : (Jvm.Cond.code ({ cls := "FormulaShapes", name := "<init>", desc := "()V" } : Jvm.MethodName) prog_1_method_1_code (2 : Nat) (Option.none : Option Jvm.ClassFile.FieldType)) ∈ lw_big := lw_bg (lw_m1 (List.mem_of_getElem? (l := tables_1_1) (i := 18) rfl)) rfl
theorem wd19 : (Jvm.Cond.methodLink "FormulaShapes" (1 : Nat) ({ cls := "java/lang/Object", name := "<init>", desc := "()V" } : Jvm.MethodName)) ∈ lw_big := lw_bg (lw_m1 (List.mem_of_getElem? (l := tables_1_1) (i := 19) rfl)) rfl
theorem wd20 : (Jvm.Cond.instanceMethod ({ cls := "java/lang/Object", name := "<init>", desc := "()V" } : Jvm.MethodName)) ∈ lw_big := lw_bg (lw_m1 (List.mem_of_getElem? (l := tables_1_1) (i := 20) rfl)) rfl
theorem wd21 : (Jvm.Cond.code ({ cls := "java/lang/Object", name := "<init>", desc := "()V" } : Jvm.MethodName) object_method_1_code (1 : Nat) (Option.none : Option Jvm.ClassFile.FieldType)) ∈ lw_big := lw_bg (lw_m1 (List.mem_of_getElem? (l := tables_1_1) (i := 21) rfl)) rfl
theorem wd22 : (Jvm.Cond.classLink "FormulaShapes" (9 : Nat) "FormulaShapes$Box") ∈ lw_big := lw_bg (lw_m1 (List.mem_of_getElem? (l := tables_1_1) (i := 22) rfl)) rfl
theorem wd23 : (Jvm.Cond.arrayOver (Jvm.ClassFile.FieldType.object "FormulaShapes$Box")) ∈ tables_1 := lw_m1 (List.mem_of_getElem? (l := tables_1_1) (i := 23) rfl)
theorem wd24 : (Jvm.Cond.classLink "FormulaShapes" (15 : Nat) "FormulaShapes$Family") ∈ lw_big := lw_bg (lw_m1 (List.mem_of_getElem? (l := tables_1_1) (i := 24) rfl)) rfl
theorem wd25 : (Jvm.Cond.arrayOver (Jvm.ClassFile.FieldType.object "FormulaShapes$Family")) ∈ tables_1 := lw_m1 (List.mem_of_getElem? (l := tables_1_1) (i := 25) rfl)
theorem wd26 : (Jvm.Cond.instantiable "FormulaShapes$Family" (6 : Nat)) ∈ lw_big := lw_bg (lw_m1 (List.mem_of_getElem? (l := tables_1_1) (i := 26) rfl)) rfl
theorem wd27 : (Jvm.Cond.methodLink "FormulaShapes" (21 : Nat) ({ cls := "FormulaShapes$Family", name := "<init>", desc := "()V" } : Jvm.MethodName)) ∈ lw_big := lw_bg (lw_m1 (List.mem_of_getElem? (l := tables_1_1) (i := 27) rfl)) rfl
theorem wd28 : (Jvm.Cond.instanceMethod ({ cls := "FormulaShapes$Family", name := "<init>", desc := "()V" } : Jvm.MethodName)) ∈ lw_big := lw_bg (lw_m1 (List.mem_of_getElem? (l := tables_1_1) (i := 28) rfl)) rfl
theorem wd29 : (Jvm.Cond.code ({ cls := "FormulaShapes$Family", name := "<init>", desc := "()V" } : Jvm.MethodName) prog_3_method_1_code (1 : Nat) (Option.none : Option Jvm.ClassFile.FieldType)) ∈ lw_big := lw_bg (lw_m1 (List.mem_of_getElem? (l := tables_1_1) (i := 29) rfl)) rfl
theorem wd30 : (Jvm.Cond.methodLink "FormulaShapes$Family" (3 : Nat) ({ cls := "java/lang/Object", name := "<init>", desc := "()V" } : Jvm.MethodName)) ∈ lw_big := lw_bg (lw_m1 (List.mem_of_getElem? (l := tables_1_1) (i := 30) rfl)) rfl
theorem wd31 : (Jvm.Cond.fieldLink "FormulaShapes$Family" (9 : Nat) "FormulaShapes$Family" "members" "[I") ∈ lw_big := lw_bg (lw_m1 (List.mem_of_getElem? (l := tables_1_1) (i := 31) rfl)) rfl
theorem wd32 : (Jvm.Cond.fieldLink "FormulaShapes" (78 : Nat) "FormulaShapes$Family" "members" "[I") ∈ lw_big := lw_bg (lw_m1 (List.mem_of_getElem? (l := tables_1_1) (i := 32) rfl)) rfl
theorem wd33 : (Jvm.Cond.fieldLink "FormulaShapes" (70 : Nat) "FormulaShapes$Family" "count" "I") ∈ lw_big := lw_bg (lw_m1 (List.mem_of_getElem? (l := tables_1_1) (i := 33) rfl)) rfl
theorem wd34 : (Jvm.Cond.fieldLink "FormulaShapes$Family" (15 : Nat) "FormulaShapes$Family" "upper" "I") ∈ lw_big := lw_bg (lw_m1 (List.mem_of_getElem? (l := tables_1_1) (i := 34) rfl)) rfl
theorem wd35 : (Jvm.Cond.fieldLink "FormulaShapes" (93 : Nat) "FormulaShapes$Family" "upper" "I") ∈ lw_big := lw_bg (lw_m1 (List.mem_of_getElem? (l := tables_1_1) (i := 35) rfl)) rfl
theorem wd36 : (Jvm.Cond.fieldLink "FormulaShapes$Family" (19 : Nat) "FormulaShapes$Family" "middle" "I") ∈ lw_big := lw_bg (lw_m1 (List.mem_of_getElem? (l := tables_1_1) (i := 36) rfl)) rfl
theorem wd37 : (Jvm.Cond.fieldLink "FormulaShapes" (96 : Nat) "FormulaShapes$Family" "middle" "I") ∈ lw_big := lw_bg (lw_m1 (List.mem_of_getElem? (l := tables_1_1) (i := 37) rfl)) rfl
theorem wd38 : (Jvm.Cond.fieldLink "FormulaShapes$Family" (22 : Nat) "FormulaShapes$Family" "lower" "I") ∈ lw_big := lw_bg (lw_m1 (List.mem_of_getElem? (l := tables_1_1) (i := 38) rfl)) rfl
theorem wd39 : (Jvm.Cond.fieldLink "FormulaShapes" (99 : Nat) "FormulaShapes$Family" "lower" "I") ∈ lw_big := lw_bg (lw_m1 (List.mem_of_getElem? (l := tables_1_1) (i := 39) rfl)) rfl
theorem wd40 : (Jvm.Cond.fieldLink "FormulaShapes$Family" (25 : Nat) "FormulaShapes$Family" "repeated" "I") ∈ lw_big := lw_bg (lw_m1 (List.mem_of_getElem? (l := tables_1_1) (i := 40) rfl)) rfl
theorem wd41 : (Jvm.Cond.fieldLink "FormulaShapes" (102 : Nat) "FormulaShapes$Family" "repeated" "I") ∈ lw_big := lw_bg (lw_m1 (List.mem_of_getElem? (l := tables_1_1) (i := 41) rfl)) rfl
theorem wd42 : (Jvm.Cond.laysFinal "FormulaShapes$Family" "FormulaShapes$Family" "members" "[I") ∈ lw_big := lw_bg (lw_m1 (List.mem_of_getElem? (l := tables_1_1) (i := 42) rfl)) rfl
theorem wd43 : (Jvm.Cond.soleField "FormulaShapes$Family" "members") ∈ lw_big := lw_bg (lw_m1 (List.mem_of_getElem? (l := tables_1_1) (i := 43) rfl)) rfl
theorem wd44 : (Jvm.Cond.lays "FormulaShapes$Family" "FormulaShapes$Family" "count" "I") ∈ lw_big := lw_bg (lw_m1 (List.mem_of_getElem? (l := tables_1_1) (i := 44) rfl)) rfl
theorem wd45 : (Jvm.Cond.soleField "FormulaShapes$Family" "count") ∈ lw_big := lw_bg (lw_m1 (List.mem_of_getElem? (l := tables_1_1) (i := 45) rfl)) rfl
theorem wd46 : (Jvm.Cond.lays "FormulaShapes$Family" "FormulaShapes$Family" "upper" "I") ∈ lw_big := lw_bg (lw_m1 (List.mem_of_getElem? (l := tables_1_1) (i := 46) rfl)) rfl
theorem wd47 : (Jvm.Cond.soleField "FormulaShapes$Family" "upper") ∈ lw_big := lw_bg (lw_m1 (List.mem_of_getElem? (l := tables_1_1) (i := 47) rfl)) rfl
theorem wd48 : (Jvm.Cond.lays "FormulaShapes$Family" "FormulaShapes$Family" "middle" "I") ∈ lw_big := lw_bg (lw_m1 (List.mem_of_getElem? (l := tables_1_1) (i := 48) rfl)) rfl
theorem wd49 : (Jvm.Cond.soleField "FormulaShapes$Family" "middle") ∈ lw_big := lw_bg (lw_m1 (List.mem_of_getElem? (l := tables_1_1) (i := 49) rfl)) rfl
theorem wd50 : (Jvm.Cond.lays "FormulaShapes$Family" "FormulaShapes$Family" "lower" "I") ∈ lw_big := lw_bg (lw_m1 (List.mem_of_getElem? (l := tables_1_1) (i := 50) rfl)) rfl
theorem wd51 : (Jvm.Cond.soleField "FormulaShapes$Family" "lower") ∈ lw_big := lw_bg (lw_m1 (List.mem_of_getElem? (l := tables_1_1) (i := 51) rfl)) rfl
theorem wd52 : (Jvm.Cond.lays "FormulaShapes$Family" "FormulaShapes$Family" "repeated" "I") ∈ lw_big := lw_bg (lw_m1 (List.mem_of_getElem? (l := tables_1_1) (i := 52) rfl)) rfl
theorem wd53 : (Jvm.Cond.soleField "FormulaShapes$Family" "repeated") ∈ lw_big := lw_bg (lw_m1 (List.mem_of_getElem? (l := tables_1_1) (i := 53) rfl)) rfl
theorem wd54 : (Jvm.Cond.superclass "FormulaShapes$Family" "java/lang/Object") ∈ lw_big := lw_bg (lw_m1 (List.mem_of_getElem? (l := tables_1_1) (i := 54) rfl)) rfl
theorem wd55 : (Jvm.Cond.arrayClass Jvm.ClassFile.FieldType.int) ∈ lw_big := lw_bg (lw_m1 (List.mem_of_getElem? (l := tables_1_1) (i := 55) rfl)) rfl
theorem wd56 : (Jvm.Cond.fieldLink "FormulaShapes" (11 : Nat) "FormulaShapes" "made" "[LFormulaShapes$Box;") ∈ lw_big := lw_bg (lw_m1 (List.mem_of_getElem? (l := tables_1_1) (i := 56) rfl)) rfl
theorem wd57 : (Jvm.Cond.fieldLink "FormulaShapes" (201 : Nat) "FormulaShapes" "count" "I") ∈ lw_big := lw_bg (lw_m1 (List.mem_of_getElem? (l := tables_1_1) (i := 57) rfl)) rfl
theorem wd58 : (Jvm.Cond.fieldLink "FormulaShapes" (17 : Nat) "FormulaShapes" "families" "[LFormulaShapes$Family;") ∈ lw_big := lw_bg (lw_m1 (List.mem_of_getElem? (l := tables_1_1) (i := 58) rfl)) rfl
theorem wd59 : (Jvm.Cond.fieldLink "FormulaShapes" (22 : Nat) "FormulaShapes" "parameters" "[I") ∈ lw_big := lw_bg (lw_m1 (List.mem_of_getElem? (l := tables_1_1) (i := 59) rfl)) rfl
theorem wd60 : (Jvm.Cond.fieldLink "FormulaShapes" (43 : Nat) "FormulaShapes" "space" "I") ∈ lw_big := lw_bg (lw_m1 (List.mem_of_getElem? (l := tables_1_1) (i := 60) rfl)) rfl
theorem wd61 : (Jvm.Cond.fieldLink "FormulaShapes" (47 : Nat) "FormulaShapes" "shortBy" "I") ∈ lw_big := lw_bg (lw_m1 (List.mem_of_getElem? (l := tables_1_1) (i := 61) rfl)) rfl
theorem wd62 : (Jvm.Cond.laysFinal "FormulaShapes" "FormulaShapes" "made" "[LFormulaShapes$Box;") ∈ lw_big := lw_bg (lw_m1 (List.mem_of_getElem? (l := tables_1_1) (i := 62) rfl)) rfl
theorem wd63 : (Jvm.Cond.soleField "FormulaShapes" "made") ∈ lw_big := lw_bg (lw_m1 (List.mem_of_getElem? (l := tables_1_1) (i := 63) rfl)) rfl
theorem wd64 : (Jvm.Cond.lays "FormulaShapes" "FormulaShapes" "count" "I") ∈ lw_big := lw_bg (lw_m1 (List.mem_of_getElem? (l := tables_1_1) (i := 64) rfl)) rfl
theorem wd65 : (Jvm.Cond.soleField "FormulaShapes" "count") ∈ lw_big := lw_bg (lw_m1 (List.mem_of_getElem? (l := tables_1_1) (i := 65) rfl)) rfl
theorem wd66 : (Jvm.Cond.laysFinal "FormulaShapes" "FormulaShapes" "families" "[LFormulaShapes$Family;") ∈ lw_big := lw_bg (lw_m1 (List.mem_of_getElem? (l := tables_1_1) (i := 66) rfl)) rfl
theorem wd67 : (Jvm.Cond.soleField "FormulaShapes" "families") ∈ lw_big := lw_bg (lw_m1 (List.mem_of_getElem? (l := tables_1_1) (i := 67) rfl)) rfl
theorem wd68 : (Jvm.Cond.laysFinal "FormulaShapes" "FormulaShapes" "parameters" "[I") ∈ lw_big := lw_bg (lw_m1 (List.mem_of_getElem? (l := tables_1_1) (i := 68) rfl)) rfl
theorem wd69 : (Jvm.Cond.soleField "FormulaShapes" "parameters") ∈ lw_big := lw_bg (lw_m1 (List.mem_of_getElem? (l := tables_1_1) (i := 69) rfl)) rfl
theorem wd70 : (Jvm.Cond.lays "FormulaShapes" "FormulaShapes" "space" "I") ∈ lw_big := lw_bg (lw_m1 (List.mem_of_getElem? (l := tables_1_1) (i := 70) rfl)) rfl
theorem wd71 : (Jvm.Cond.soleField "FormulaShapes" "space") ∈ lw_big := lw_bg (lw_m1 (List.mem_of_getElem? (l := tables_1_1) (i := 71) rfl)) rfl
theorem wd72 : (Jvm.Cond.lays "FormulaShapes" "FormulaShapes" "shortBy" "I") ∈ lw_big := lw_bg (lw_m1 (List.mem_of_getElem? (l := tables_1_1) (i := 72) rfl)) rfl
theorem wd73 : (Jvm.Cond.soleField "FormulaShapes" "shortBy") ∈ lw_big := lw_bg (lw_m1 (List.mem_of_getElem? (l := tables_1_1) (i := 73) rfl)) rfl
theorem wd74 : (Jvm.Cond.superclass "FormulaShapes" "java/lang/Object") ∈ lw_big := lw_bg (lw_m1 (List.mem_of_getElem? (l := tables_1_1) (i := 74) rfl)) rfl
theorem wd75 : (Jvm.Cond.methodLink "FormulaShapesLaw" (127 : Nat) ({ cls := "FormulaShapes", name := "boxes", desc := "()I" } : Jvm.MethodName)) ∈ lw_big := lw_bg (lw_m1 (List.mem_of_getElem? (l := tables_1_1) (i := 75) rfl)) rfl
theorem wd76 : (Jvm.Cond.instanceMethod ({ cls := "FormulaShapes", name := "boxes", desc := "()I" } : Jvm.MethodName)) ∈ lw_big := lw_bg (lw_m1 (List.mem_of_getElem? (l := tables_1_1) (i := 76) rfl)) rfl
theorem wd77 : (Jvm.Cond.selects "FormulaShapes" ({ cls := "FormulaShapes", name := "boxes", desc := "()I" } : Jvm.MethodName) ({ cls := "FormulaShapes", name := "boxes", desc := "()I" } : Jvm.MethodName)) ∈ lw_big := lw_bg (lw_m1 (List.mem_of_getElem? (l := tables_1_1) (i := 77) rfl)) rfl
theorem wd78 : (Jvm.Cond.code ({ cls := "FormulaShapes", name := "boxes", desc := "()I" } : Jvm.MethodName) prog_1_method_17_code (1 : Nat) (Option.some Jvm.ClassFile.FieldType.int)) ∈ lw_big := lw_bg (lw_m1 (List.mem_of_getElem? (l := tables_1_1) (i := 78) rfl)) rfl
theorem wd79 : (Jvm.Cond.methodLink "FormulaShapesLaw" (71 : Nat) ({ cls := "FormulaShapesLaw", name := "parameter", desc := "(LFormulaShapes;III[J)I" } : Jvm.MethodName)) ∈ lw_big := lw_bg (lw_m1 (List.mem_of_getElem? (l := tables_1_1) (i := 79) rfl)) rfl
theorem wd80 : (Jvm.Cond.static ({ cls := "FormulaShapesLaw", name := "parameter", desc := "(LFormulaShapes;III[J)I" } : Jvm.MethodName)) ∈ lw_big := lw_bg (lw_m1 (List.mem_of_getElem? (l := tables_1_1) (i := 80) rfl)) rfl
theorem wd81 : (Jvm.Cond.codeWith ({ cls := "FormulaShapesLaw", name := "parameter", desc := "(LFormulaShapes;III[J)I" } : Jvm.MethodName) method_3_code (6 : Nat) (Option.some Jvm.ClassFile.FieldType.int) [((0 : Nat), (12 : Nat), (15 : Nat), (13 : Nat)), ((0 : Nat), (12 : Nat), (19 : Nat), (15 : Nat))]) ∈ lw_big := lw_bg (lw_m1 (List.mem_of_getElem? (l := tables_1_1) (i := 81) rfl)) rfl
theorem wd82 : (Jvm.Cond.classLink "FormulaShapesLaw" (13 : Nat) "java/lang/IndexOutOfBoundsException") ∈ lw_big := lw_bg (lw_m1 (List.mem_of_getElem? (l := tables_1_1) (i := 82) rfl)) rfl
theorem wd83 : (Jvm.Cond.classLink "FormulaShapesLaw" (15 : Nat) "java/lang/IllegalArgumentException") ∈ lw_big := lw_bg (lw_m1 (List.mem_of_getElem? (l := tables_1_1) (i := 83) rfl)) rfl
theorem wd84 : (Jvm.Cond.methodLink "FormulaShapesLaw" (7 : Nat) ({ cls := "FormulaShapes", name := "parameter", desc := "(III)I" } : Jvm.MethodName)) ∈ lw_big := lw_bg (lw_m1 (List.mem_of_getElem? (l := tables_1_1) (i := 84) rfl)) rfl
theorem wd85 : (Jvm.Cond.instanceMethod ({ cls := "FormulaShapes", name := "parameter", desc := "(III)I" } : Jvm.MethodName)) ∈ lw_big := lw_bg (lw_m1 (List.mem_of_getElem? (l := tables_1_1) (i := 85) rfl)) rfl
theorem wd86 : (Jvm.Cond.selects "FormulaShapes" ({ cls := "FormulaShapes", name := "parameter", desc := "(III)I" } : Jvm.MethodName) ({ cls := "FormulaShapes", name := "parameter", desc := "(III)I" } : Jvm.MethodName)) ∈ lw_big := lw_bg (lw_m1 (List.mem_of_getElem? (l := tables_1_1) (i := 86) rfl)) rfl
theorem wd87 : (Jvm.Cond.code ({ cls := "FormulaShapes", name := "parameter", desc := "(III)I" } : Jvm.MethodName) prog_1_method_2_code (6 : Nat) (Option.some Jvm.ClassFile.FieldType.int)) ∈ lw_big := lw_bg (lw_m1 (List.mem_of_getElem? (l := tables_1_1) (i := 87) rfl)) rfl
theorem wd88 : (Jvm.Cond.classLink "FormulaShapes" (26 : Nat) "java/lang/IndexOutOfBoundsException") ∈ lw_big := lw_bg (lw_m1 (List.mem_of_getElem? (l := tables_1_1) (i := 88) rfl)) rfl
theorem wd89 : (Jvm.Cond.instantiable "java/lang/IndexOutOfBoundsException" (6 : Nat)) ∈ lw_big := lw_bg (lw_m1 (List.mem_of_getElem? (l := tables_1_1) (i := 89) rfl)) rfl
theorem wd90 : (Jvm.Cond.castable "java/lang/IndexOutOfBoundsException" "java/lang/IndexOutOfBoundsException") ∈ lw_big := lw_bg (lw_m1 (List.mem_of_getElem? (l := tables_1_1) (i := 90) rfl)) rfl
theorem wd91 : (Jvm.Cond.declares ({ cls := "java/lang/RuntimeException", name := "<init>", desc := "()V" } : Jvm.MethodName)) ∈ lw_big := lw_bg (lw_m1 (List.mem_of_getElem? (l := tables_1_1) (i := 91) rfl)) rfl
theorem wd92 : (Jvm.Cond.declares ({ cls := "java/lang/RuntimeException", name := "<init>", desc := "(Ljava/lang/String;)V" } : Jvm.MethodName)) ∈ lw_big := lw_bg (lw_m1 (List.mem_of_getElem? (l := tables_1_1) (i := 92) rfl)) rfl
theorem wd93 : (Jvm.Cond.declares ({ cls := "java/lang/Exception", name := "<init>", desc := "()V" } : Jvm.MethodName)) ∈ lw_big := lw_bg (lw_m1 (List.mem_of_getElem? (l := tables_1_1) (i := 93) rfl)) rfl
theorem wd94 : (Jvm.Cond.declares ({ cls := "java/lang/Exception", name := "<init>", desc := "(Ljava/lang/String;)V" } : Jvm.MethodName)) ∈ lw_big := lw_bg (lw_m1 (List.mem_of_getElem? (l := tables_1_1) (i := 94) rfl)) rfl
theorem wd95 : (Jvm.Cond.declares ({ cls := "java/lang/Throwable", name := "<init>", desc := "()V" } : Jvm.MethodName)) ∈ lw_big := lw_bg (lw_m1 (List.mem_of_getElem? (l := tables_1_1) (i := 95) rfl)) rfl
theorem wd96 : (Jvm.Cond.declares ({ cls := "java/lang/Throwable", name := "<init>", desc := "(Ljava/lang/String;)V" } : Jvm.MethodName)) ∈ lw_big := lw_bg (lw_m1 (List.mem_of_getElem? (l := tables_1_1) (i := 96) rfl)) rfl
theorem wd97 : (Jvm.Cond.selects "java/lang/IndexOutOfBoundsException" ({ cls := "java/lang/Throwable", name := "fillInStackTrace", desc := "(I)Ljava/lang/Throwable;" } : Jvm.MethodName) ({ cls := "java/lang/Throwable", name := "fillInStackTrace", desc := "(I)Ljava/lang/Throwable;" } : Jvm.MethodName)) ∈ lw_big := lw_bg (lw_m1 (List.mem_of_getElem? (l := tables_1_1) (i := 97) rfl)) rfl
theorem wd98 : (Jvm.Cond.selects "java/lang/IndexOutOfBoundsException" ({ cls := "java/lang/Throwable", name := "fillInStackTrace", desc := "()Ljava/lang/Throwable;" } : Jvm.MethodName) ({ cls := "java/lang/Throwable", name := "fillInStackTrace", desc := "()Ljava/lang/Throwable;" } : Jvm.MethodName)) ∈ lw_big := lw_bg (lw_m1 (List.mem_of_getElem? (l := tables_1_1) (i := 98) rfl)) rfl
theorem wd99 : (Jvm.Cond.lays "java/lang/IndexOutOfBoundsException" "java/lang/Throwable" "cause" "Ljava/lang/Throwable;") ∈ lw_big := lw_bg (lw_m1 (List.mem_of_getElem? (l := tables_1_1) (i := 99) rfl)) rfl
theorem wd100 : (Jvm.Cond.lays "java/lang/Throwable" "java/lang/Throwable" "cause" "Ljava/lang/Throwable;") ∈ lw_big := lw_bg (lw_m1 (List.mem_of_getElem? (l := tables_1_1) (i := 100) rfl)) rfl
theorem wd101 : (Jvm.Cond.lays "java/lang/IndexOutOfBoundsException" "java/lang/Throwable" "stackTrace" "[Ljava/lang/StackTraceElement;") ∈ lw_big := lw_bg (lw_m1 (List.mem_of_getElem? (l := tables_1_1) (i := 101) rfl)) rfl
theorem wd102 : (Jvm.Cond.lays "java/lang/Throwable" "java/lang/Throwable" "stackTrace" "[Ljava/lang/StackTraceElement;") ∈ lw_big := lw_bg (lw_m1 (List.mem_of_getElem? (l := tables_1_1) (i := 102) rfl)) rfl
theorem wd103 : (Jvm.Cond.lays "java/lang/IndexOutOfBoundsException" "java/lang/Throwable" "suppressedExceptions" "Ljava/util/List;") ∈ lw_big := lw_bg (lw_m1 (List.mem_of_getElem? (l := tables_1_1) (i := 103) rfl)) rfl
theorem wd104 : (Jvm.Cond.lays "java/lang/Throwable" "java/lang/Throwable" "suppressedExceptions" "Ljava/util/List;") ∈ lw_big := lw_bg (lw_m1 (List.mem_of_getElem? (l := tables_1_1) (i := 104) rfl)) rfl
theorem wd105 : (Jvm.Cond.lays "java/lang/IndexOutOfBoundsException" "java/lang/Throwable" "detailMessage" "Ljava/lang/String;") ∈ lw_big := lw_bg (lw_m1 (List.mem_of_getElem? (l := tables_1_1) (i := 105) rfl)) rfl
theorem wd106 : (Jvm.Cond.lays "java/lang/Throwable" "java/lang/Throwable" "detailMessage" "Ljava/lang/String;") ∈ lw_big := lw_bg (lw_m1 (List.mem_of_getElem? (l := tables_1_1) (i := 106) rfl)) rfl
theorem wd107 : (Jvm.Cond.lays "java/lang/IndexOutOfBoundsException" "java/lang/Throwable" "backtrace" "Ljava/lang/Object;") ∈ lw_big := lw_bg (lw_m1 (List.mem_of_getElem? (l := tables_1_1) (i := 107) rfl)) rfl
theorem wd108 : (Jvm.Cond.lays "java/lang/Throwable" "java/lang/Throwable" "backtrace" "Ljava/lang/Object;") ∈ lw_big := lw_bg (lw_m1 (List.mem_of_getElem? (l := tables_1_1) (i := 108) rfl)) rfl
theorem wd109 : (Jvm.Cond.fieldLink "java/lang/Throwable" (198 : Nat) "java/lang/Throwable" "backtrace" "Ljava/lang/Object;") ∈ lw_big := lw_bg (lw_m1 (List.mem_of_getElem? (l := tables_1_1) (i := 109) rfl)) rfl
theorem wd110 : (Jvm.Cond.superclass "java/lang/Throwable" "java/lang/Object") ∈ lw_big := lw_bg (lw_m1 (List.mem_of_getElem? (l := tables_1_1) (i := 110) rfl)) rfl
theorem wd111 : (Jvm.Cond.instanceMethod ({ cls := "java/lang/Throwable", name := "<init>", desc := "()V" } : Jvm.MethodName)) ∈ lw_big := lw_bg (lw_m1 (List.mem_of_getElem? (l := tables_1_1) (i := 111) rfl)) rfl
theorem wd112 : (Jvm.Cond.code ({ cls := "java/lang/Throwable", name := "<init>", desc := "()V" } : Jvm.MethodName) prog_14_method_1_code (1 : Nat) (Option.none : Option Jvm.ClassFile.FieldType)) ∈ lw_big := lw_bg (lw_m1 (List.mem_of_getElem? (l := tables_1_1) (i := 112) rfl)) rfl
theorem wd113 : (Jvm.Cond.methodLink "java/lang/Throwable" (1 : Nat) ({ cls := "java/lang/Object", name := "<init>", desc := "()V" } : Jvm.MethodName)) ∈ lw_big := lw_bg (lw_m1 (List.mem_of_getElem? (l := tables_1_1) (i := 113) rfl)) rfl
theorem wd114 : (Jvm.Cond.fieldLink "java/lang/Throwable" (13 : Nat) "java/lang/Throwable" "UNASSIGNED_STACK" "[Ljava/lang/StackTraceElement;") ∈ lw_big := lw_bg (lw_m1 (List.mem_of_getElem? (l := tables_1_1) (i := 114) rfl)) rfl
theorem wd115 : (Jvm.Cond.laysStatic "java/lang/Throwable" "UNASSIGNED_STACK" "[Ljava/lang/StackTraceElement;") ∈ tables_1 := lw_m1 (List.mem_of_getElem? (l := tables_1_1) (i := 115) rfl)
theorem wd116 : (Jvm.Cond.fieldLink "java/lang/Throwable" (20 : Nat) "java/lang/Throwable" "SUPPRESSED_SENTINEL" "Ljava/util/List;") ∈ lw_big := lw_bg (lw_m1 (List.mem_of_getElem? (l := tables_1_1) (i := 116) rfl)) rfl
theorem wd117 : (Jvm.Cond.laysStatic "java/lang/Throwable" "SUPPRESSED_SENTINEL" "Ljava/util/List;") ∈ tables_1 := lw_m1 (List.mem_of_getElem? (l := tables_1_1) (i := 117) rfl)
theorem wd118 : (Jvm.Cond.methodLink "java/lang/Throwable" (27 : Nat) ({ cls := "java/lang/Throwable", name := "fillInStackTrace", desc := "()Ljava/lang/Throwable;" } : Jvm.MethodName)) ∈ lw_big := lw_bg (lw_m1 (List.mem_of_getElem? (l := tables_1_1) (i := 118) rfl)) rfl
theorem wd119 : (Jvm.Cond.instanceMethod ({ cls := "java/lang/Throwable", name := "fillInStackTrace", desc := "()Ljava/lang/Throwable;" } : Jvm.MethodName)) ∈ lw_big := lw_bg (lw_m1 (List.mem_of_getElem? (l := tables_1_1) (i := 119) rfl)) rfl
theorem wd120 : (Jvm.Cond.sameMethod "java/lang/Throwable" "java/lang/Throwable" "fillInStackTrace" "()Ljava/lang/Throwable;") ∈ lw_big := lw_bg (lw_m1 (List.mem_of_getElem? (l := tables_1_1) (i := 120) rfl)) rfl
theorem wd121 : (Jvm.Cond.selects "java/lang/IllegalArgumentException" ({ cls := "java/lang/Throwable", name := "fillInStackTrace", desc := "()Ljava/lang/Throwable;" } : Jvm.MethodName) ({ cls := "java/lang/Throwable", name := "fillInStackTrace", desc := "()Ljava/lang/Throwable;" } : Jvm.MethodName)) ∈ lw_big := lw_bg (lw_m1 (List.mem_of_getElem? (l := tables_1_1) (i := 121) rfl)) rfl
theorem wd122 : (Jvm.Cond.selects "java/lang/IllegalStateException" ({ cls := "java/lang/Throwable", name := "fillInStackTrace", desc := "()Ljava/lang/Throwable;" } : Jvm.MethodName) ({ cls := "java/lang/Throwable", name := "fillInStackTrace", desc := "()Ljava/lang/Throwable;" } : Jvm.MethodName)) ∈ lw_big := lw_bg (lw_m1 (List.mem_of_getElem? (l := tables_1_1) (i := 122) rfl)) rfl
theorem wd123 : (Jvm.Cond.selects "java/lang/UnsupportedOperationException" ({ cls := "java/lang/Throwable", name := "fillInStackTrace", desc := "()Ljava/lang/Throwable;" } : Jvm.MethodName) ({ cls := "java/lang/Throwable", name := "fillInStackTrace", desc := "()Ljava/lang/Throwable;" } : Jvm.MethodName)) ∈ lw_big := lw_bg (lw_m1 (List.mem_of_getElem? (l := tables_1_1) (i := 123) rfl)) rfl
theorem wd124 : (Jvm.Cond.codeSync ({ cls := "java/lang/Throwable", name := "fillInStackTrace", desc := "()Ljava/lang/Throwable;" } : Jvm.MethodName) prog_14_method_18_code (1 : Nat) (Option.some (Jvm.ClassFile.FieldType.object "java/lang/Throwable"))) ∈ lw_big := lw_bg (lw_m1 (List.mem_of_getElem? (l := tables_1_1) (i := 124) rfl)) rfl
theorem wd125 : (Jvm.Cond.methodLink "java/lang/Throwable" (202 : Nat) ({ cls := "java/lang/Throwable", name := "fillInStackTrace", desc := "(I)Ljava/lang/Throwable;" } : Jvm.MethodName)) ∈ lw_big := lw_bg (lw_m1 (List.mem_of_getElem? (l := tables_1_1) (i := 125) rfl)) rfl
theorem wd126 : (Jvm.Cond.privateMethod ({ cls := "java/lang/Throwable", name := "fillInStackTrace", desc := "(I)Ljava/lang/Throwable;" } : Jvm.MethodName)) ∈ tables_1 := lw_m1 (List.mem_of_getElem? (l := tables_1_1) (i := 126) rfl)
theorem wd127 : (Jvm.Cond.instanceMethod ({ cls := "java/lang/Throwable", name := "fillInStackTrace", desc := "(I)Ljava/lang/Throwable;" } : Jvm.MethodName)) ∈ lw_big := lw_bg (lw_m1 (List.mem_of_getElem? (l := tables_1_1) (i := 127) rfl)) rfl
theorem wd128 : (Jvm.Cond.instantiable "java/lang/Throwable" (6 : Nat)) ∈ lw_big := lw_bg (lw_m1 (List.mem_of_getElem? (l := tables_1_1) (i := 128) rfl)) rfl
theorem wd129 : (Jvm.Cond.native ({ cls := "java/lang/Throwable", name := "fillInStackTrace", desc := "(I)Ljava/lang/Throwable;" } : Jvm.MethodName)) ∈ lw_big := lw_bg (lw_m1 (List.mem_of_getElem? (l := tables_1_1) (i := 129) rfl)) rfl
theorem wd130 : (Jvm.Cond.stringRef "FormulaShapes" (28 : Nat) "no such size") ∈ tables_1 := lw_m1 (List.mem_of_getElem? (l := tables_1_1) (i := 130) rfl)
theorem wd131 : (Jvm.Cond.methodLink "FormulaShapes" (30 : Nat) ({ cls := "java/lang/IndexOutOfBoundsException", name := "<init>", desc := "(Ljava/lang/String;)V" } : Jvm.MethodName)) ∈ lw_big := lw_bg (lw_m1 (List.mem_of_getElem? (l := tables_1_1) (i := 131) rfl)) rfl
theorem wd132 : (Jvm.Cond.instanceMethod ({ cls := "java/lang/IndexOutOfBoundsException", name := "<init>", desc := "(Ljava/lang/String;)V" } : Jvm.MethodName)) ∈ lw_big := lw_bg (lw_m1 (List.mem_of_getElem? (l := tables_1_1) (i := 132) rfl)) rfl
theorem wd133 : (Jvm.Cond.code ({ cls := "java/lang/IndexOutOfBoundsException", name := "<init>", desc := "(Ljava/lang/String;)V" } : Jvm.MethodName) prog_10_method_2_code (2 : Nat) (Option.none : Option Jvm.ClassFile.FieldType)) ∈ lw_big := lw_bg (lw_m1 (List.mem_of_getElem? (l := tables_1_1) (i := 133) rfl)) rfl
theorem wd134 : (Jvm.Cond.methodLink "java/lang/IndexOutOfBoundsException" (7 : Nat) ({ cls := "java/lang/RuntimeException", name := "<init>", desc := "(Ljava/lang/String;)V" } : Jvm.MethodName)) ∈ lw_big := lw_bg (lw_m1 (List.mem_of_getElem? (l := tables_1_1) (i := 134) rfl)) rfl
theorem wd135 : (Jvm.Cond.instanceMethod ({ cls := "java/lang/RuntimeException", name := "<init>", desc := "(Ljava/lang/String;)V" } : Jvm.MethodName)) ∈ lw_big := lw_bg (lw_m1 (List.mem_of_getElem? (l := tables_1_1) (i := 135) rfl)) rfl
theorem wd136 : (Jvm.Cond.code ({ cls := "java/lang/RuntimeException", name := "<init>", desc := "(Ljava/lang/String;)V" } : Jvm.MethodName) prog_12_method_2_code (2 : Nat) (Option.none : Option Jvm.ClassFile.FieldType)) ∈ lw_big := lw_bg (lw_m1 (List.mem_of_getElem? (l := tables_1_1) (i := 136) rfl)) rfl
theorem wd137 : (Jvm.Cond.methodLink "java/lang/RuntimeException" (7 : Nat) ({ cls := "java/lang/Exception", name := "<init>", desc := "(Ljava/lang/String;)V" } : Jvm.MethodName)) ∈ lw_big := lw_bg (lw_m1 (List.mem_of_getElem? (l := tables_1_1) (i := 137) rfl)) rfl
theorem wd138 : (Jvm.Cond.instanceMethod ({ cls := "java/lang/Exception", name := "<init>", desc := "(Ljava/lang/String;)V" } : Jvm.MethodName)) ∈ lw_big := lw_bg (lw_m1 (List.mem_of_getElem? (l := tables_1_1) (i := 138) rfl)) rfl
theorem wd139 : (Jvm.Cond.code ({ cls := "java/lang/Exception", name := "<init>", desc := "(Ljava/lang/String;)V" } : Jvm.MethodName) prog_7_method_2_code (2 : Nat) (Option.none : Option Jvm.ClassFile.FieldType)) ∈ lw_big := lw_bg (lw_m1 (List.mem_of_getElem? (l := tables_1_1) (i := 139) rfl)) rfl
theorem wd140 : (Jvm.Cond.methodLink "java/lang/Exception" (7 : Nat) ({ cls := "java/lang/Throwable", name := "<init>", desc := "(Ljava/lang/String;)V" } : Jvm.MethodName)) ∈ lw_big := lw_bg (lw_m1 (List.mem_of_getElem? (l := tables_1_1) (i := 140) rfl)) rfl
theorem wd141 : (Jvm.Cond.instanceMethod ({ cls := "java/lang/Throwable", name := "<init>", desc := "(Ljava/lang/String;)V" } : Jvm.MethodName)) ∈ lw_big := lw_bg (lw_m1 (List.mem_of_getElem? (l := tables_1_1) (i := 141) rfl)) rfl
theorem wd142 : (Jvm.Cond.code ({ cls := "java/lang/Throwable", name := "<init>", desc := "(Ljava/lang/String;)V" } : Jvm.MethodName) prog_14_method_2_code (2 : Nat) (Option.none : Option Jvm.ClassFile.FieldType)) ∈ lw_big := lw_bg (lw_m1 (List.mem_of_getElem? (l := tables_1_1) (i := 142) rfl)) rfl
theorem wd143 : (Jvm.Cond.fieldLink "java/lang/Throwable" (198 : Nat) "java/lang/Throwable" "backtrace" "Ljava/lang/Object;") ∈ lw_big := lw_bg (lw_m1 (List.mem_of_getElem? (l := tables_1_1) (i := 143) rfl)) rfl
theorem wd144 : (Jvm.Cond.fieldLink "java/lang/Throwable" (31 : Nat) "java/lang/Throwable" "detailMessage" "Ljava/lang/String;") ∈ lw_big := lw_bg (lw_m1 (List.mem_of_getElem? (l := tables_1_1) (i := 144) rfl)) rfl
theorem wd145 : (Jvm.Cond.fieldLink "java/lang/Throwable" (7 : Nat) "java/lang/Throwable" "cause" "Ljava/lang/Throwable;") ∈ lw_big := lw_bg (lw_m1 (List.mem_of_getElem? (l := tables_1_1) (i := 145) rfl)) rfl
theorem wd146 : (Jvm.Cond.fieldLink "java/lang/Throwable" (17 : Nat) "java/lang/Throwable" "stackTrace" "[Ljava/lang/StackTraceElement;") ∈ lw_big := lw_bg (lw_m1 (List.mem_of_getElem? (l := tables_1_1) (i := 146) rfl)) rfl
theorem wd147 : (Jvm.Cond.fieldLink "java/lang/Throwable" (24 : Nat) "java/lang/Throwable" "suppressedExceptions" "Ljava/util/List;") ∈ lw_big := lw_bg (lw_m1 (List.mem_of_getElem? (l := tables_1_1) (i := 147) rfl)) rfl
theorem wd148 : (Jvm.Cond.soleField "java/lang/Throwable" "backtrace") ∈ lw_big := lw_bg (lw_m1 (List.mem_of_getElem? (l := tables_1_1) (i := 148) rfl)) rfl
theorem wd149 : (Jvm.Cond.soleField "java/lang/Throwable" "detailMessage") ∈ lw_big := lw_bg (lw_m1 (List.mem_of_getElem? (l := tables_1_1) (i := 149) rfl)) rfl
theorem wd150 : (Jvm.Cond.soleField "java/lang/Throwable" "cause") ∈ lw_big := lw_bg (lw_m1 (List.mem_of_getElem? (l := tables_1_1) (i := 150) rfl)) rfl
theorem wd151 : (Jvm.Cond.soleField "java/lang/Throwable" "stackTrace") ∈ lw_big := lw_bg (lw_m1 (List.mem_of_getElem? (l := tables_1_1) (i := 151) rfl)) rfl
theorem wd152 : (Jvm.Cond.lays "java/lang/IndexOutOfBoundsException" "java/lang/Throwable" "depth" "I") ∈ lw_big := lw_bg (lw_m1 (List.mem_of_getElem? (l := tables_1_1) (i := 152) rfl)) rfl
theorem wd153 : (Jvm.Cond.soleField "java/lang/Throwable" "depth") ∈ lw_big := lw_bg (lw_m1 (List.mem_of_getElem? (l := tables_1_1) (i := 153) rfl)) rfl
theorem wd154 : (Jvm.Cond.soleField "java/lang/Throwable" "suppressedExceptions") ∈ lw_big := lw_bg (lw_m1 (List.mem_of_getElem? (l := tables_1_1) (i := 154) rfl)) rfl
theorem wd155 : (Jvm.Cond.superclass "java/lang/IndexOutOfBoundsException" "java/lang/RuntimeException") ∈ lw_big := lw_bg (lw_m1 (List.mem_of_getElem? (l := tables_1_1) (i := 155) rfl)) rfl
theorem wd156 : (Jvm.Cond.arrayClass Jvm.ClassFile.FieldType.byte) ∈ lw_big := lw_bg (lw_m1 (List.mem_of_getElem? (l := tables_1_1) (i := 156) rfl)) rfl
theorem wd157 : (Jvm.Cond.stringRef "FormulaShapes" (33 : Nat) "no such parameter") ∈ tables_1 := lw_m1 (List.mem_of_getElem? (l := tables_1_1) (i := 157) rfl)
theorem wd158 : (Jvm.Cond.constant "FormulaShapes" (35 : Nat) (-1000000 : Int32)) ∈ lw_big := lw_bg (lw_m1 (List.mem_of_getElem? (l := tables_1_1) (i := 158) rfl)) rfl
theorem wd159 : (Jvm.Cond.constant "FormulaShapes" (36 : Nat) (1000000 : Int32)) ∈ lw_big := lw_bg (lw_m1 (List.mem_of_getElem? (l := tables_1_1) (i := 159) rfl)) rfl
theorem wd160 : (Jvm.Cond.methodLink "FormulaShapes" (37 : Nat) ({ cls := "FormulaShapes", name := "needWithin", desc := "(III)V" } : Jvm.MethodName)) ∈ lw_big := lw_bg (lw_m1 (List.mem_of_getElem? (l := tables_1_1) (i := 160) rfl)) rfl
theorem wd161 : (Jvm.Cond.static ({ cls := "FormulaShapes", name := "needWithin", desc := "(III)V" } : Jvm.MethodName)) ∈ lw_big := lw_bg (lw_m1 (List.mem_of_getElem? (l := tables_1_1) (i := 161) rfl)) rfl
theorem wd162 : (Jvm.Cond.code ({ cls := "FormulaShapes", name := "needWithin", desc := "(III)V" } : Jvm.MethodName) prog_1_method_22_code (3 : Nat) (Option.none : Option Jvm.ClassFile.FieldType)) ∈ lw_big := lw_bg (lw_m1 (List.mem_of_getElem? (l := tables_1_1) (i := 162) rfl)) rfl
theorem wd163 : (Jvm.Cond.classLink "FormulaShapes" (88 : Nat) "java/lang/IllegalArgumentException") ∈ lw_big := lw_bg (lw_m1 (List.mem_of_getElem? (l := tables_1_1) (i := 163) rfl)) rfl
theorem wd164 : (Jvm.Cond.instantiable "java/lang/IllegalArgumentException" (6 : Nat)) ∈ lw_big := lw_bg (lw_m1 (List.mem_of_getElem? (l := tables_1_1) (i := 164) rfl)) rfl
theorem wd165 : (Jvm.Cond.castable "java/lang/IllegalArgumentException" "java/lang/IllegalArgumentException") ∈ lw_big := lw_bg (lw_m1 (List.mem_of_getElem? (l := tables_1_1) (i := 165) rfl)) rfl
theorem wd166 : (Jvm.Cond.selects "java/lang/IllegalArgumentException" ({ cls := "java/lang/Throwable", name := "fillInStackTrace", desc := "(I)Ljava/lang/Throwable;" } : Jvm.MethodName) ({ cls := "java/lang/Throwable", name := "fillInStackTrace", desc := "(I)Ljava/lang/Throwable;" } : Jvm.MethodName)) ∈ lw_big := lw_bg (lw_m1 (List.mem_of_getElem? (l := tables_1_1) (i := 166) rfl)) rfl
theorem wd167 : (Jvm.Cond.lays "java/lang/IllegalArgumentException" "java/lang/Throwable" "cause" "Ljava/lang/Throwable;") ∈ lw_big := lw_bg (lw_m1 (List.mem_of_getElem? (l := tables_1_1) (i := 167) rfl)) rfl
theorem wd168 : (Jvm.Cond.lays "java/lang/IllegalArgumentException" "java/lang/Throwable" "stackTrace" "[Ljava/lang/StackTraceElement;") ∈ lw_big := lw_bg (lw_m1 (List.mem_of_getElem? (l := tables_1_1) (i := 168) rfl)) rfl
theorem wd169 : (Jvm.Cond.lays "java/lang/IllegalArgumentException" "java/lang/Throwable" "suppressedExceptions" "Ljava/util/List;") ∈ lw_big := lw_bg (lw_m1 (List.mem_of_getElem? (l := tables_1_1) (i := 169) rfl)) rfl
theorem wd170 : (Jvm.Cond.lays "java/lang/IllegalArgumentException" "java/lang/Throwable" "detailMessage" "Ljava/lang/String;") ∈ lw_big := lw_bg (lw_m1 (List.mem_of_getElem? (l := tables_1_1) (i := 170) rfl)) rfl
theorem wd171 : (Jvm.Cond.lays "java/lang/IllegalArgumentException" "java/lang/Throwable" "backtrace" "Ljava/lang/Object;") ∈ lw_big := lw_bg (lw_m1 (List.mem_of_getElem? (l := tables_1_1) (i := 171) rfl)) rfl
theorem wd172 : (Jvm.Cond.stringRef "FormulaShapes" (208 : Nat) "a number is too small or too great") ∈ tables_1 := lw_m1 (List.mem_of_getElem? (l := tables_1_1) (i := 172) rfl)
theorem wd173 : (Jvm.Cond.methodLink "FormulaShapes" (92 : Nat) ({ cls := "java/lang/IllegalArgumentException", name := "<init>", desc := "(Ljava/lang/String;)V" } : Jvm.MethodName)) ∈ lw_big := lw_bg (lw_m1 (List.mem_of_getElem? (l := tables_1_1) (i := 173) rfl)) rfl
theorem wd174 : (Jvm.Cond.instanceMethod ({ cls := "java/lang/IllegalArgumentException", name := "<init>", desc := "(Ljava/lang/String;)V" } : Jvm.MethodName)) ∈ lw_big := lw_bg (lw_m1 (List.mem_of_getElem? (l := tables_1_1) (i := 174) rfl)) rfl
theorem wd175 : (Jvm.Cond.code ({ cls := "java/lang/IllegalArgumentException", name := "<init>", desc := "(Ljava/lang/String;)V" } : Jvm.MethodName) prog_8_method_2_code (2 : Nat) (Option.none : Option Jvm.ClassFile.FieldType)) ∈ lw_big := lw_bg (lw_m1 (List.mem_of_getElem? (l := tables_1_1) (i := 175) rfl)) rfl
theorem wd176 : (Jvm.Cond.methodLink "java/lang/IllegalArgumentException" (7 : Nat) ({ cls := "java/lang/RuntimeException", name := "<init>", desc := "(Ljava/lang/String;)V" } : Jvm.MethodName)) ∈ lw_big := lw_bg (lw_m1 (List.mem_of_getElem? (l := tables_1_1) (i := 176) rfl)) rfl
theorem wd177 : (Jvm.Cond.lays "java/lang/IllegalArgumentException" "java/lang/Throwable" "depth" "I") ∈ lw_big := lw_bg (lw_m1 (List.mem_of_getElem? (l := tables_1_1) (i := 177) rfl)) rfl
theorem wd178 : (Jvm.Cond.superclass "java/lang/IllegalArgumentException" "java/lang/RuntimeException") ∈ lw_big := lw_bg (lw_m1 (List.mem_of_getElem? (l := tables_1_1) (i := 178) rfl)) rfl
theorem wd179 : (Jvm.Cond.methodLink "FormulaShapesLaw" (81 : Nat) ({ cls := "FormulaShapesLaw", name := "set", desc := "(LFormulaShapes;II[J)I" } : Jvm.MethodName)) ∈ lw_big := lw_bg (lw_m1 (List.mem_of_getElem? (l := tables_1_1) (i := 179) rfl)) rfl
theorem wd180 : (Jvm.Cond.static ({ cls := "FormulaShapesLaw", name := "set", desc := "(LFormulaShapes;II[J)I" } : Jvm.MethodName)) ∈ lw_big := lw_bg (lw_m1 (List.mem_of_getElem? (l := tables_1_1) (i := 180) rfl)) rfl
theorem wd181 : (Jvm.Cond.codeWith ({ cls := "FormulaShapesLaw", name := "set", desc := "(LFormulaShapes;II[J)I" } : Jvm.MethodName) method_4_code (5 : Nat) (Option.some Jvm.ClassFile.FieldType.int) [((0 : Nat), (10 : Nat), (13 : Nat), (13 : Nat)), ((0 : Nat), (10 : Nat), (17 : Nat), (15 : Nat))]) ∈ lw_big := lw_bg (lw_m1 (List.mem_of_getElem? (l := tables_1_1) (i := 181) rfl)) rfl
theorem wd182 : (Jvm.Cond.methodLink "FormulaShapesLaw" (17 : Nat) ({ cls := "FormulaShapes", name := "set", desc := "(II)I" } : Jvm.MethodName)) ∈ lw_big := lw_bg (lw_m1 (List.mem_of_getElem? (l := tables_1_1) (i := 182) rfl)) rfl
theorem wd183 : (Jvm.Cond.instanceMethod ({ cls := "FormulaShapes", name := "set", desc := "(II)I" } : Jvm.MethodName)) ∈ lw_big := lw_bg (lw_m1 (List.mem_of_getElem? (l := tables_1_1) (i := 183) rfl)) rfl
theorem wd184 : (Jvm.Cond.selects "FormulaShapes" ({ cls := "FormulaShapes", name := "set", desc := "(II)I" } : Jvm.MethodName) ({ cls := "FormulaShapes", name := "set", desc := "(II)I" } : Jvm.MethodName)) ∈ lw_big := lw_bg (lw_m1 (List.mem_of_getElem? (l := tables_1_1) (i := 184) rfl)) rfl
theorem wd185 : (Jvm.Cond.code ({ cls := "FormulaShapes", name := "set", desc := "(II)I" } : Jvm.MethodName) prog_1_method_3_code (4 : Nat) (Option.some Jvm.ClassFile.FieldType.int)) ∈ lw_big := lw_bg (lw_m1 (List.mem_of_getElem? (l := tables_1_1) (i := 185) rfl)) rfl
theorem wd186 : (Jvm.Cond.stringRef "FormulaShapes" (41 : Nat) "what is 0 or 1") ∈ tables_1 := lw_m1 (List.mem_of_getElem? (l := tables_1_1) (i := 186) rfl)
theorem wd187 : (Jvm.Cond.methodLink "FormulaShapesLaw" (85 : Nat) ({ cls := "FormulaShapesLaw", name := "box", desc := "(LFormulaShapes;III[J)I" } : Jvm.MethodName)) ∈ lw_big := lw_bg (lw_m1 (List.mem_of_getElem? (l := tables_1_1) (i := 187) rfl)) rfl
theorem wd188 : (Jvm.Cond.static ({ cls := "FormulaShapesLaw", name := "box", desc := "(LFormulaShapes;III[J)I" } : Jvm.MethodName)) ∈ lw_big := lw_bg (lw_m1 (List.mem_of_getElem? (l := tables_1_1) (i := 188) rfl)) rfl
theorem wd189 : (Jvm.Cond.codeWith ({ cls := "FormulaShapesLaw", name := "box", desc := "(LFormulaShapes;III[J)I" } : Jvm.MethodName) method_5_code (6 : Nat) (Option.some Jvm.ClassFile.FieldType.int) [((0 : Nat), (12 : Nat), (15 : Nat), (15 : Nat)), ((0 : Nat), (12 : Nat), (19 : Nat), (24 : Nat))]) ∈ lw_big := lw_bg (lw_m1 (List.mem_of_getElem? (l := tables_1_1) (i := 189) rfl)) rfl
theorem wd190 : (Jvm.Cond.classLink "FormulaShapesLaw" (24 : Nat) "java/lang/UnsupportedOperationException") ∈ lw_big := lw_bg (lw_m1 (List.mem_of_getElem? (l := tables_1_1) (i := 190) rfl)) rfl
theorem wd191 : (Jvm.Cond.methodLink "FormulaShapesLaw" (21 : Nat) ({ cls := "FormulaShapes", name := "box", desc := "(III)I" } : Jvm.MethodName)) ∈ lw_big := lw_bg (lw_m1 (List.mem_of_getElem? (l := tables_1_1) (i := 191) rfl)) rfl
theorem wd192 : (Jvm.Cond.instanceMethod ({ cls := "FormulaShapes", name := "box", desc := "(III)I" } : Jvm.MethodName)) ∈ lw_big := lw_bg (lw_m1 (List.mem_of_getElem? (l := tables_1_1) (i := 192) rfl)) rfl
theorem wd193 : (Jvm.Cond.selects "FormulaShapes" ({ cls := "FormulaShapes", name := "box", desc := "(III)I" } : Jvm.MethodName) ({ cls := "FormulaShapes", name := "box", desc := "(III)I" } : Jvm.MethodName)) ∈ lw_big := lw_bg (lw_m1 (List.mem_of_getElem? (l := tables_1_1) (i := 193) rfl)) rfl
theorem wd194 : (Jvm.Cond.code ({ cls := "FormulaShapes", name := "box", desc := "(III)I" } : Jvm.MethodName) prog_1_method_4_code (4 : Nat) (Option.some Jvm.ClassFile.FieldType.int)) ∈ lw_big := lw_bg (lw_m1 (List.mem_of_getElem? (l := tables_1_1) (i := 194) rfl)) rfl
theorem wd195 : (Jvm.Cond.methodLink "FormulaShapes" (50 : Nat) ({ cls := "FormulaShapes", name := "needRoom", desc := "(I)V" } : Jvm.MethodName)) ∈ lw_big := lw_bg (lw_m1 (List.mem_of_getElem? (l := tables_1_1) (i := 195) rfl)) rfl
theorem wd196 : (Jvm.Cond.privateMethod ({ cls := "FormulaShapes", name := "needRoom", desc := "(I)V" } : Jvm.MethodName)) ∈ tables_1 := lw_m1 (List.mem_of_getElem? (l := tables_1_1) (i := 196) rfl)
theorem wd197 : (Jvm.Cond.instanceMethod ({ cls := "FormulaShapes", name := "needRoom", desc := "(I)V" } : Jvm.MethodName)) ∈ lw_big := lw_bg (lw_m1 (List.mem_of_getElem? (l := tables_1_1) (i := 197) rfl)) rfl
theorem wd198 : (Jvm.Cond.code ({ cls := "FormulaShapes", name := "needRoom", desc := "(I)V" } : Jvm.MethodName) prog_1_method_25_code (2 : Nat) (Option.none : Option Jvm.ClassFile.FieldType)) ∈ lw_big := lw_bg (lw_m1 (List.mem_of_getElem? (l := tables_1_1) (i := 198) rfl)) rfl
theorem wd199 : (Jvm.Cond.classLink "FormulaShapes" (73 : Nat) "java/lang/UnsupportedOperationException") ∈ lw_big := lw_bg (lw_m1 (List.mem_of_getElem? (l := tables_1_1) (i := 199) rfl)) rfl
theorem wd200 : (Jvm.Cond.instantiable "java/lang/UnsupportedOperationException" (6 : Nat)) ∈ lw_big := lw_bg (lw_m1 (List.mem_of_getElem? (l := tables_1_1) (i := 200) rfl)) rfl
theorem wd201 : (Jvm.Cond.castable "java/lang/UnsupportedOperationException" "java/lang/UnsupportedOperationException") ∈ lw_big := lw_bg (lw_m1 (List.mem_of_getElem? (l := tables_1_1) (i := 201) rfl)) rfl
theorem wd202 : (Jvm.Cond.selects "java/lang/UnsupportedOperationException" ({ cls := "java/lang/Throwable", name := "fillInStackTrace", desc := "(I)Ljava/lang/Throwable;" } : Jvm.MethodName) ({ cls := "java/lang/Throwable", name := "fillInStackTrace", desc := "(I)Ljava/lang/Throwable;" } : Jvm.MethodName)) ∈ lw_big := lw_bg (lw_m1 (List.mem_of_getElem? (l := tables_1_1) (i := 202) rfl)) rfl
theorem wd203 : (Jvm.Cond.lays "java/lang/UnsupportedOperationException" "java/lang/Throwable" "cause" "Ljava/lang/Throwable;") ∈ lw_big := lw_bg (lw_m1 (List.mem_of_getElem? (l := tables_1_1) (i := 203) rfl)) rfl
theorem wd204 : (Jvm.Cond.lays "java/lang/UnsupportedOperationException" "java/lang/Throwable" "stackTrace" "[Ljava/lang/StackTraceElement;") ∈ lw_big := lw_bg (lw_m1 (List.mem_of_getElem? (l := tables_1_1) (i := 204) rfl)) rfl
theorem wd205 : (Jvm.Cond.lays "java/lang/UnsupportedOperationException" "java/lang/Throwable" "suppressedExceptions" "Ljava/util/List;") ∈ lw_big := lw_bg (lw_m1 (List.mem_of_getElem? (l := tables_1_1) (i := 205) rfl)) rfl
theorem wd206 : (Jvm.Cond.lays "java/lang/UnsupportedOperationException" "java/lang/Throwable" "detailMessage" "Ljava/lang/String;") ∈ lw_big := lw_bg (lw_m1 (List.mem_of_getElem? (l := tables_1_1) (i := 206) rfl)) rfl
theorem wd207 : (Jvm.Cond.lays "java/lang/UnsupportedOperationException" "java/lang/Throwable" "backtrace" "Ljava/lang/Object;") ∈ lw_big := lw_bg (lw_m1 (List.mem_of_getElem? (l := tables_1_1) (i := 207) rfl)) rfl
theorem wd208 : (Jvm.Cond.stringRef "FormulaShapes" (217 : Nat) "there are too many boxes") ∈ tables_1 := lw_m1 (List.mem_of_getElem? (l := tables_1_1) (i := 208) rfl)
theorem wd209 : (Jvm.Cond.methodLink "FormulaShapes" (77 : Nat) ({ cls := "java/lang/UnsupportedOperationException", name := "<init>", desc := "(Ljava/lang/String;)V" } : Jvm.MethodName)) ∈ lw_big := lw_bg (lw_m1 (List.mem_of_getElem? (l := tables_1_1) (i := 209) rfl)) rfl
theorem wd210 : (Jvm.Cond.instanceMethod ({ cls := "java/lang/UnsupportedOperationException", name := "<init>", desc := "(Ljava/lang/String;)V" } : Jvm.MethodName)) ∈ lw_big := lw_bg (lw_m1 (List.mem_of_getElem? (l := tables_1_1) (i := 210) rfl)) rfl
theorem wd211 : (Jvm.Cond.code ({ cls := "java/lang/UnsupportedOperationException", name := "<init>", desc := "(Ljava/lang/String;)V" } : Jvm.MethodName) prog_15_method_2_code (2 : Nat) (Option.none : Option Jvm.ClassFile.FieldType)) ∈ lw_big := lw_bg (lw_m1 (List.mem_of_getElem? (l := tables_1_1) (i := 211) rfl)) rfl
theorem wd212 : (Jvm.Cond.methodLink "java/lang/UnsupportedOperationException" (7 : Nat) ({ cls := "java/lang/RuntimeException", name := "<init>", desc := "(Ljava/lang/String;)V" } : Jvm.MethodName)) ∈ lw_big := lw_bg (lw_m1 (List.mem_of_getElem? (l := tables_1_1) (i := 212) rfl)) rfl
theorem wd213 : (Jvm.Cond.lays "java/lang/UnsupportedOperationException" "java/lang/Throwable" "depth" "I") ∈ lw_big := lw_bg (lw_m1 (List.mem_of_getElem? (l := tables_1_1) (i := 213) rfl)) rfl
theorem wd214 : (Jvm.Cond.superclass "java/lang/UnsupportedOperationException" "java/lang/RuntimeException") ∈ lw_big := lw_bg (lw_m1 (List.mem_of_getElem? (l := tables_1_1) (i := 214) rfl)) rfl
theorem wd215 : (Jvm.Cond.instantiable "FormulaShapes$Box" (6 : Nat)) ∈ lw_big := lw_bg (lw_m1 (List.mem_of_getElem? (l := tables_1_1) (i := 215) rfl)) rfl
theorem wd216 : (Jvm.Cond.fieldLink "FormulaShapes" (54 : Nat) "FormulaShapes" "NO_PLACES" "[I") ∈ lw_big := lw_bg (lw_m1 (List.mem_of_getElem? (l := tables_1_1) (i := 216) rfl)) rfl
theorem wd217 : (Jvm.Cond.laysStatic "FormulaShapes" "NO_PLACES" "[I") ∈ tables_1 := lw_m1 (List.mem_of_getElem? (l := tables_1_1) (i := 217) rfl)
theorem wd218 : (Jvm.Cond.methodLink "FormulaShapes" (57 : Nat) ({ cls := "FormulaShapes$Box", name := "<init>", desc := "(III[I)V" } : Jvm.MethodName)) ∈ lw_big := lw_bg (lw_m1 (List.mem_of_getElem? (l := tables_1_1) (i := 218) rfl)) rfl
theorem wd219 : (Jvm.Cond.instanceMethod ({ cls := "FormulaShapes$Box", name := "<init>", desc := "(III[I)V" } : Jvm.MethodName)) ∈ lw_big := lw_bg (lw_m1 (List.mem_of_getElem? (l := tables_1_1) (i := 219) rfl)) rfl
theorem wd220 : (Jvm.Cond.code ({ cls := "FormulaShapes$Box", name := "<init>", desc := "(III[I)V" } : Jvm.MethodName) prog_2_method_1_code (5 : Nat) (Option.none : Option Jvm.ClassFile.FieldType)) ∈ lw_big := lw_bg (lw_m1 (List.mem_of_getElem? (l := tables_1_1) (i := 220) rfl)) rfl
theorem wd221 : (Jvm.Cond.methodLink "FormulaShapes$Box" (1 : Nat) ({ cls := "FormulaShapes$Box", name := "<init>", desc := "(III[III)V" } : Jvm.MethodName)) ∈ lw_big := lw_bg (lw_m1 (List.mem_of_getElem? (l := tables_1_1) (i := 221) rfl)) rfl
theorem wd222 : (Jvm.Cond.instanceMethod ({ cls := "FormulaShapes$Box", name := "<init>", desc := "(III[III)V" } : Jvm.MethodName)) ∈ lw_big := lw_bg (lw_m1 (List.mem_of_getElem? (l := tables_1_1) (i := 222) rfl)) rfl
theorem wd223 : (Jvm.Cond.code ({ cls := "FormulaShapes$Box", name := "<init>", desc := "(III[III)V" } : Jvm.MethodName) prog_2_method_2_code (7 : Nat) (Option.none : Option Jvm.ClassFile.FieldType)) ∈ lw_big := lw_bg (lw_m1 (List.mem_of_getElem? (l := tables_1_1) (i := 223) rfl)) rfl
theorem wd224 : (Jvm.Cond.methodLink "FormulaShapes$Box" (7 : Nat) ({ cls := "java/lang/Object", name := "<init>", desc := "()V" } : Jvm.MethodName)) ∈ lw_big := lw_bg (lw_m1 (List.mem_of_getElem? (l := tables_1_1) (i := 224) rfl)) rfl
theorem wd225 : (Jvm.Cond.fieldLink "FormulaShapes$Box" (12 : Nat) "FormulaShapes$Box" "width" "I") ∈ lw_big := lw_bg (lw_m1 (List.mem_of_getElem? (l := tables_1_1) (i := 225) rfl)) rfl
theorem wd226 : (Jvm.Cond.fieldLink "FormulaShapes$Pile" (19 : Nat) "FormulaShapes$Box" "width" "I") ∈ lw_big := lw_bg (lw_m1 (List.mem_of_getElem? (l := tables_1_1) (i := 226) rfl)) rfl
theorem wd227 : (Jvm.Cond.fieldLink "FormulaShapes" (219 : Nat) "FormulaShapes$Box" "width" "I") ∈ lw_big := lw_bg (lw_m1 (List.mem_of_getElem? (l := tables_1_1) (i := 227) rfl)) rfl
theorem wd228 : (Jvm.Cond.fieldLink "FormulaShapes$Box" (16 : Nat) "FormulaShapes$Box" "height" "I") ∈ lw_big := lw_bg (lw_m1 (List.mem_of_getElem? (l := tables_1_1) (i := 228) rfl)) rfl
theorem wd229 : (Jvm.Cond.fieldLink "FormulaShapes$Pile" (37 : Nat) "FormulaShapes$Box" "height" "I") ∈ lw_big := lw_bg (lw_m1 (List.mem_of_getElem? (l := tables_1_1) (i := 229) rfl)) rfl
theorem wd230 : (Jvm.Cond.fieldLink "FormulaShapes" (222 : Nat) "FormulaShapes$Box" "height" "I") ∈ lw_big := lw_bg (lw_m1 (List.mem_of_getElem? (l := tables_1_1) (i := 230) rfl)) rfl
theorem wd231 : (Jvm.Cond.fieldLink "FormulaShapes$Box" (19 : Nat) "FormulaShapes$Box" "depth" "I") ∈ lw_big := lw_bg (lw_m1 (List.mem_of_getElem? (l := tables_1_1) (i := 231) rfl)) rfl
theorem wd232 : (Jvm.Cond.fieldLink "FormulaShapes$Pile" (34 : Nat) "FormulaShapes$Box" "depth" "I") ∈ lw_big := lw_bg (lw_m1 (List.mem_of_getElem? (l := tables_1_1) (i := 232) rfl)) rfl
theorem wd233 : (Jvm.Cond.fieldLink "FormulaShapes" (225 : Nat) "FormulaShapes$Box" "depth" "I") ∈ lw_big := lw_bg (lw_m1 (List.mem_of_getElem? (l := tables_1_1) (i := 233) rfl)) rfl
theorem wd234 : (Jvm.Cond.fieldLink "FormulaShapes$Box" (22 : Nat) "FormulaShapes$Box" "places" "[I") ∈ lw_big := lw_bg (lw_m1 (List.mem_of_getElem? (l := tables_1_1) (i := 234) rfl)) rfl
theorem wd235 : (Jvm.Cond.fieldLink "FormulaShapes" (186 : Nat) "FormulaShapes$Box" "places" "[I") ∈ lw_big := lw_bg (lw_m1 (List.mem_of_getElem? (l := tables_1_1) (i := 235) rfl)) rfl
theorem wd236 : (Jvm.Cond.fieldLink "FormulaShapes$Box" (26 : Nat) "FormulaShapes$Box" "ruleWidth" "I") ∈ lw_big := lw_bg (lw_m1 (List.mem_of_getElem? (l := tables_1_1) (i := 236) rfl)) rfl
theorem wd237 : (Jvm.Cond.fieldLink "FormulaShapes" (195 : Nat) "FormulaShapes$Box" "ruleWidth" "I") ∈ lw_big := lw_bg (lw_m1 (List.mem_of_getElem? (l := tables_1_1) (i := 237) rfl)) rfl
theorem wd238 : (Jvm.Cond.fieldLink "FormulaShapes$Box" (29 : Nat) "FormulaShapes$Box" "ruleHeight" "I") ∈ lw_big := lw_bg (lw_m1 (List.mem_of_getElem? (l := tables_1_1) (i := 238) rfl)) rfl
theorem wd239 : (Jvm.Cond.fieldLink "FormulaShapes" (198 : Nat) "FormulaShapes$Box" "ruleHeight" "I") ∈ lw_big := lw_bg (lw_m1 (List.mem_of_getElem? (l := tables_1_1) (i := 239) rfl)) rfl
theorem wd240 : (Jvm.Cond.laysFinal "FormulaShapes$Box" "FormulaShapes$Box" "width" "I") ∈ lw_big := lw_bg (lw_m2 (List.mem_of_getElem? (l := tables_1_2) (i := 0) rfl)) rfl
theorem wd241 : (Jvm.Cond.soleField "FormulaShapes$Box" "width") ∈ lw_big := lw_bg (lw_m2 (List.mem_of_getElem? (l := tables_1_2) (i := 1) rfl)) rfl
theorem wd242 : (Jvm.Cond.laysFinal "FormulaShapes$Box" "FormulaShapes$Box" "height" "I") ∈ lw_big := lw_bg (lw_m2 (List.mem_of_getElem? (l := tables_1_2) (i := 2) rfl)) rfl
theorem wd243 : (Jvm.Cond.soleField "FormulaShapes$Box" "height") ∈ lw_big := lw_bg (lw_m2 (List.mem_of_getElem? (l := tables_1_2) (i := 3) rfl)) rfl
theorem wd244 : (Jvm.Cond.laysFinal "FormulaShapes$Box" "FormulaShapes$Box" "depth" "I") ∈ lw_big := lw_bg (lw_m2 (List.mem_of_getElem? (l := tables_1_2) (i := 4) rfl)) rfl
theorem wd245 : (Jvm.Cond.soleField "FormulaShapes$Box" "depth") ∈ lw_big := lw_bg (lw_m2 (List.mem_of_getElem? (l := tables_1_2) (i := 5) rfl)) rfl
theorem wd246 : (Jvm.Cond.laysFinal "FormulaShapes$Box" "FormulaShapes$Box" "places" "[I") ∈ lw_big := lw_bg (lw_m2 (List.mem_of_getElem? (l := tables_1_2) (i := 6) rfl)) rfl
theorem wd247 : (Jvm.Cond.soleField "FormulaShapes$Box" "places") ∈ lw_big := lw_bg (lw_m2 (List.mem_of_getElem? (l := tables_1_2) (i := 7) rfl)) rfl
theorem wd248 : (Jvm.Cond.laysFinal "FormulaShapes$Box" "FormulaShapes$Box" "ruleWidth" "I") ∈ lw_big := lw_bg (lw_m2 (List.mem_of_getElem? (l := tables_1_2) (i := 8) rfl)) rfl
theorem wd249 : (Jvm.Cond.soleField "FormulaShapes$Box" "ruleWidth") ∈ lw_big := lw_bg (lw_m2 (List.mem_of_getElem? (l := tables_1_2) (i := 9) rfl)) rfl
theorem wd250 : (Jvm.Cond.laysFinal "FormulaShapes$Box" "FormulaShapes$Box" "ruleHeight" "I") ∈ lw_big := lw_bg (lw_m2 (List.mem_of_getElem? (l := tables_1_2) (i := 10) rfl)) rfl
theorem wd251 : (Jvm.Cond.soleField "FormulaShapes$Box" "ruleHeight") ∈ lw_big := lw_bg (lw_m2 (List.mem_of_getElem? (l := tables_1_2) (i := 11) rfl)) rfl
theorem wd252 : (Jvm.Cond.superclass "FormulaShapes$Box" "java/lang/Object") ∈ lw_big := lw_bg (lw_m2 (List.mem_of_getElem? (l := tables_1_2) (i := 12) rfl)) rfl
theorem wd253 : (Jvm.Cond.methodLink "FormulaShapes" (60 : Nat) ({ cls := "FormulaShapes", name := "keep", desc := "(LFormulaShapes$Box;)I" } : Jvm.MethodName)) ∈ lw_big := lw_bg (lw_m2 (List.mem_of_getElem? (l := tables_1_2) (i := 13) rfl)) rfl
theorem wd254 : (Jvm.Cond.privateMethod ({ cls := "FormulaShapes", name := "keep", desc := "(LFormulaShapes$Box;)I" } : Jvm.MethodName)) ∈ tables_1 := lw_m2 (List.mem_of_getElem? (l := tables_1_2) (i := 14) rfl)
theorem wd255 : (Jvm.Cond.instanceMethod ({ cls := "FormulaShapes", name := "keep", desc := "(LFormulaShapes$Box;)I" } : Jvm.MethodName)) ∈ lw_big := lw_bg (lw_m2 (List.mem_of_getElem? (l := tables_1_2) (i := 15) rfl)) rfl
theorem wd256 : (Jvm.Cond.code ({ cls := "FormulaShapes", name := "keep", desc := "(LFormulaShapes$Box;)I" } : Jvm.MethodName) prog_1_method_26_code (3 : Nat) (Option.some Jvm.ClassFile.FieldType.int)) ∈ lw_big := lw_bg (lw_m2 (List.mem_of_getElem? (l := tables_1_2) (i := 16) rfl)) rfl
theorem wd257 : (Jvm.Cond.methodLink "FormulaShapesLaw" (88 : Nat) ({ cls := "FormulaShapesLaw", name := "sign", desc := "(LFormulaShapes;II[J)I" } : Jvm.MethodName)) ∈ lw_big := lw_bg (lw_m2 (List.mem_of_getElem? (l := tables_1_2) (i := 17) rfl)) rfl
theorem wd258 : (Jvm.Cond.static ({ cls := "FormulaShapesLaw", name := "sign", desc := "(LFormulaShapes;II[J)I" } : Jvm.MethodName)) ∈ lw_big := lw_bg (lw_m2 (List.mem_of_getElem? (l := tables_1_2) (i := 18) rfl)) rfl
theorem wd259 : (Jvm.Cond.codeWith ({ cls := "FormulaShapesLaw", name := "sign", desc := "(LFormulaShapes;II[J)I" } : Jvm.MethodName) method_6_code (5 : Nat) (Option.some Jvm.ClassFile.FieldType.int) [((0 : Nat), (10 : Nat), (13 : Nat), (13 : Nat)), ((0 : Nat), (10 : Nat), (17 : Nat), (24 : Nat))]) ∈ lw_big := lw_bg (lw_m2 (List.mem_of_getElem? (l := tables_1_2) (i := 19) rfl)) rfl
theorem wd260 : (Jvm.Cond.methodLink "FormulaShapesLaw" (26 : Nat) ({ cls := "FormulaShapes", name := "sign", desc := "(II)I" } : Jvm.MethodName)) ∈ lw_big := lw_bg (lw_m2 (List.mem_of_getElem? (l := tables_1_2) (i := 20) rfl)) rfl
theorem wd261 : (Jvm.Cond.instanceMethod ({ cls := "FormulaShapes", name := "sign", desc := "(II)I" } : Jvm.MethodName)) ∈ lw_big := lw_bg (lw_m2 (List.mem_of_getElem? (l := tables_1_2) (i := 21) rfl)) rfl
theorem wd262 : (Jvm.Cond.selects "FormulaShapes" ({ cls := "FormulaShapes", name := "sign", desc := "(II)I" } : Jvm.MethodName) ({ cls := "FormulaShapes", name := "sign", desc := "(II)I" } : Jvm.MethodName)) ∈ lw_big := lw_bg (lw_m2 (List.mem_of_getElem? (l := tables_1_2) (i := 22) rfl)) rfl
theorem wd263 : (Jvm.Cond.code ({ cls := "FormulaShapes", name := "sign", desc := "(II)I" } : Jvm.MethodName) prog_1_method_5_code (4 : Nat) (Option.some Jvm.ClassFile.FieldType.int)) ∈ lw_big := lw_bg (lw_m2 (List.mem_of_getElem? (l := tables_1_2) (i := 23) rfl)) rfl
theorem wd264 : (Jvm.Cond.methodLink "FormulaShapes" (64 : Nat) ({ cls := "FormulaShapes", name := "needFamily", desc := "(I)V" } : Jvm.MethodName)) ∈ lw_big := lw_bg (lw_m2 (List.mem_of_getElem? (l := tables_1_2) (i := 24) rfl)) rfl
theorem wd265 : (Jvm.Cond.static ({ cls := "FormulaShapes", name := "needFamily", desc := "(I)V" } : Jvm.MethodName)) ∈ lw_big := lw_bg (lw_m2 (List.mem_of_getElem? (l := tables_1_2) (i := 25) rfl)) rfl
theorem wd266 : (Jvm.Cond.code ({ cls := "FormulaShapes", name := "needFamily", desc := "(I)V" } : Jvm.MethodName) prog_1_method_20_code (1 : Nat) (Option.none : Option Jvm.ClassFile.FieldType)) ∈ lw_big := lw_bg (lw_m2 (List.mem_of_getElem? (l := tables_1_2) (i := 26) rfl)) rfl
theorem wd267 : (Jvm.Cond.stringRef "FormulaShapes" (204 : Nat) "no such family") ∈ tables_1 := lw_m2 (List.mem_of_getElem? (l := tables_1_2) (i := 27) rfl)
theorem wd268 : (Jvm.Cond.methodLink "FormulaShapes" (67 : Nat) ({ cls := "FormulaShapes", name := "needBox", desc := "(I)V" } : Jvm.MethodName)) ∈ lw_big := lw_bg (lw_m2 (List.mem_of_getElem? (l := tables_1_2) (i := 28) rfl)) rfl
theorem wd269 : (Jvm.Cond.privateMethod ({ cls := "FormulaShapes", name := "needBox", desc := "(I)V" } : Jvm.MethodName)) ∈ tables_1 := lw_m2 (List.mem_of_getElem? (l := tables_1_2) (i := 29) rfl)
theorem wd270 : (Jvm.Cond.instanceMethod ({ cls := "FormulaShapes", name := "needBox", desc := "(I)V" } : Jvm.MethodName)) ∈ lw_big := lw_bg (lw_m2 (List.mem_of_getElem? (l := tables_1_2) (i := 30) rfl)) rfl
theorem wd271 : (Jvm.Cond.code ({ cls := "FormulaShapes", name := "needBox", desc := "(I)V" } : Jvm.MethodName) prog_1_method_18_code (2 : Nat) (Option.none : Option Jvm.ClassFile.FieldType)) ∈ lw_big := lw_bg (lw_m2 (List.mem_of_getElem? (l := tables_1_2) (i := 31) rfl)) rfl
theorem wd272 : (Jvm.Cond.stringRef "FormulaShapes" (202 : Nat) "no such box") ∈ tables_1 := lw_m2 (List.mem_of_getElem? (l := tables_1_2) (i := 32) rfl)
theorem wd273 : (Jvm.Cond.stringRef "FormulaShapes" (75 : Nat) "the family has all its boxes") ∈ tables_1 := lw_m2 (List.mem_of_getElem? (l := tables_1_2) (i := 33) rfl)
theorem wd274 : (Jvm.Cond.methodLink "FormulaShapesLaw" (91 : Nat) ({ cls := "FormulaShapesLaw", name := "pieces", desc := "(LFormulaShapes;IIIII)I" } : Jvm.MethodName)) ∈ lw_big := lw_bg (lw_m2 (List.mem_of_getElem? (l := tables_1_2) (i := 34) rfl)) rfl
theorem wd275 : (Jvm.Cond.static ({ cls := "FormulaShapesLaw", name := "pieces", desc := "(LFormulaShapes;IIIII)I" } : Jvm.MethodName)) ∈ lw_big := lw_bg (lw_m2 (List.mem_of_getElem? (l := tables_1_2) (i := 35) rfl)) rfl
theorem wd276 : (Jvm.Cond.codeWith ({ cls := "FormulaShapesLaw", name := "pieces", desc := "(LFormulaShapes;IIIII)I" } : Jvm.MethodName) method_7_code (7 : Nat) (Option.some Jvm.ClassFile.FieldType.int) [((0 : Nat), (11 : Nat), (14 : Nat), (13 : Nat)), ((0 : Nat), (11 : Nat), (18 : Nat), (15 : Nat))]) ∈ lw_big := lw_bg (lw_m2 (List.mem_of_getElem? (l := tables_1_2) (i := 36) rfl)) rfl
theorem wd277 : (Jvm.Cond.methodLink "FormulaShapesLaw" (29 : Nat) ({ cls := "FormulaShapes", name := "pieces", desc := "(IIIII)V" } : Jvm.MethodName)) ∈ lw_big := lw_bg (lw_m2 (List.mem_of_getElem? (l := tables_1_2) (i := 37) rfl)) rfl
theorem wd278 : (Jvm.Cond.instanceMethod ({ cls := "FormulaShapes", name := "pieces", desc := "(IIIII)V" } : Jvm.MethodName)) ∈ lw_big := lw_bg (lw_m2 (List.mem_of_getElem? (l := tables_1_2) (i := 38) rfl)) rfl
theorem wd279 : (Jvm.Cond.selects "FormulaShapes" ({ cls := "FormulaShapes", name := "pieces", desc := "(IIIII)V" } : Jvm.MethodName) ({ cls := "FormulaShapes", name := "pieces", desc := "(IIIII)V" } : Jvm.MethodName)) ∈ lw_big := lw_bg (lw_m2 (List.mem_of_getElem? (l := tables_1_2) (i := 39) rfl)) rfl
theorem wd280 : (Jvm.Cond.code ({ cls := "FormulaShapes", name := "pieces", desc := "(IIIII)V" } : Jvm.MethodName) prog_1_method_6_code (7 : Nat) (Option.none : Option Jvm.ClassFile.FieldType)) ∈ lw_big := lw_bg (lw_m2 (List.mem_of_getElem? (l := tables_1_2) (i := 40) rfl)) rfl
theorem wd281 : (Jvm.Cond.methodLink "FormulaShapes" (81 : Nat) ({ cls := "FormulaShapes", name := "needBoxOrNone", desc := "(I)V" } : Jvm.MethodName)) ∈ lw_big := lw_bg (lw_m2 (List.mem_of_getElem? (l := tables_1_2) (i := 41) rfl)) rfl
theorem wd282 : (Jvm.Cond.privateMethod ({ cls := "FormulaShapes", name := "needBoxOrNone", desc := "(I)V" } : Jvm.MethodName)) ∈ tables_1 := lw_m2 (List.mem_of_getElem? (l := tables_1_2) (i := 42) rfl)
theorem wd283 : (Jvm.Cond.instanceMethod ({ cls := "FormulaShapes", name := "needBoxOrNone", desc := "(I)V" } : Jvm.MethodName)) ∈ lw_big := lw_bg (lw_m2 (List.mem_of_getElem? (l := tables_1_2) (i := 43) rfl)) rfl
theorem wd284 : (Jvm.Cond.code ({ cls := "FormulaShapes", name := "needBoxOrNone", desc := "(I)V" } : Jvm.MethodName) prog_1_method_19_code (2 : Nat) (Option.none : Option Jvm.ClassFile.FieldType)) ∈ lw_big := lw_bg (lw_m2 (List.mem_of_getElem? (l := tables_1_2) (i := 44) rfl)) rfl
theorem wd285 : (Jvm.Cond.methodLink "FormulaShapes" (84 : Nat) ({ cls := "FormulaShapes", name := "extentOf", desc := "(I)I" } : Jvm.MethodName)) ∈ lw_big := lw_bg (lw_m2 (List.mem_of_getElem? (l := tables_1_2) (i := 45) rfl)) rfl
theorem wd286 : (Jvm.Cond.privateMethod ({ cls := "FormulaShapes", name := "extentOf", desc := "(I)I" } : Jvm.MethodName)) ∈ tables_1 := lw_m2 (List.mem_of_getElem? (l := tables_1_2) (i := 46) rfl)
theorem wd287 : (Jvm.Cond.instanceMethod ({ cls := "FormulaShapes", name := "extentOf", desc := "(I)I" } : Jvm.MethodName)) ∈ lw_big := lw_bg (lw_m2 (List.mem_of_getElem? (l := tables_1_2) (i := 47) rfl)) rfl
theorem wd288 : (Jvm.Cond.code ({ cls := "FormulaShapes", name := "extentOf", desc := "(I)I" } : Jvm.MethodName) prog_1_method_30_code (2 : Nat) (Option.some Jvm.ClassFile.FieldType.int)) ∈ lw_big := lw_bg (lw_m2 (List.mem_of_getElem? (l := tables_1_2) (i := 48) rfl)) rfl
theorem wd289 : (Jvm.Cond.stringRef "FormulaShapes" (90 : Nat) "the repeated piece must be above 0 high") ∈ tables_1 := lw_m2 (List.mem_of_getElem? (l := tables_1_2) (i := 49) rfl)
theorem wd290 : (Jvm.Cond.methodLink "FormulaShapesLaw" (95 : Nat) ({ cls := "FormulaShapesLaw", name := "signOf", desc := "(LFormulaShapes;II[J)I" } : Jvm.MethodName)) ∈ lw_big := lw_bg (lw_m2 (List.mem_of_getElem? (l := tables_1_2) (i := 50) rfl)) rfl
theorem wd291 : (Jvm.Cond.static ({ cls := "FormulaShapesLaw", name := "signOf", desc := "(LFormulaShapes;II[J)I" } : Jvm.MethodName)) ∈ lw_big := lw_bg (lw_m2 (List.mem_of_getElem? (l := tables_1_2) (i := 51) rfl)) rfl
theorem wd292 : (Jvm.Cond.codeWith ({ cls := "FormulaShapesLaw", name := "signOf", desc := "(LFormulaShapes;II[J)I" } : Jvm.MethodName) method_8_code (5 : Nat) (Option.some Jvm.ClassFile.FieldType.int) [((0 : Nat), (10 : Nat), (13 : Nat), (13 : Nat)), ((0 : Nat), (10 : Nat), (17 : Nat), (15 : Nat)), ((0 : Nat), (10 : Nat), (21 : Nat), (36 : Nat)), ((0 : Nat), (10 : Nat), (25 : Nat), (24 : Nat))]) ∈ lw_big := lw_bg (lw_m2 (List.mem_of_getElem? (l := tables_1_2) (i := 52) rfl)) rfl
theorem wd293 : (Jvm.Cond.classLink "FormulaShapesLaw" (36 : Nat) "java/lang/IllegalStateException") ∈ lw_big := lw_bg (lw_m2 (List.mem_of_getElem? (l := tables_1_2) (i := 53) rfl)) rfl
theorem wd294 : (Jvm.Cond.methodLink "FormulaShapesLaw" (33 : Nat) ({ cls := "FormulaShapes", name := "signOf", desc := "(II)I" } : Jvm.MethodName)) ∈ lw_big := lw_bg (lw_m2 (List.mem_of_getElem? (l := tables_1_2) (i := 54) rfl)) rfl
theorem wd295 : (Jvm.Cond.instanceMethod ({ cls := "FormulaShapes", name := "signOf", desc := "(II)I" } : Jvm.MethodName)) ∈ lw_big := lw_bg (lw_m2 (List.mem_of_getElem? (l := tables_1_2) (i := 55) rfl)) rfl
theorem wd296 : (Jvm.Cond.selects "FormulaShapes" ({ cls := "FormulaShapes", name := "signOf", desc := "(II)I" } : Jvm.MethodName) ({ cls := "FormulaShapes", name := "signOf", desc := "(II)I" } : Jvm.MethodName)) ∈ lw_big := lw_bg (lw_m2 (List.mem_of_getElem? (l := tables_1_2) (i := 56) rfl)) rfl
theorem wd297 : (Jvm.Cond.code ({ cls := "FormulaShapes", name := "signOf", desc := "(II)I" } : Jvm.MethodName) prog_1_method_7_code (5 : Nat) (Option.some Jvm.ClassFile.FieldType.int)) ∈ lw_big := lw_bg (lw_m2 (List.mem_of_getElem? (l := tables_1_2) (i := 57) rfl)) rfl
theorem wd298 : (Jvm.Cond.constant "FormulaShapes" (105 : Nat) (100000000 : Int32)) ∈ lw_big := lw_bg (lw_m2 (List.mem_of_getElem? (l := tables_1_2) (i := 58) rfl)) rfl
theorem wd299 : (Jvm.Cond.methodLink "FormulaShapes" (106 : Nat) ({ cls := "FormulaShapes", name := "needSign", desc := "(LFormulaShapes$Family;)V" } : Jvm.MethodName)) ∈ lw_big := lw_bg (lw_m2 (List.mem_of_getElem? (l := tables_1_2) (i := 59) rfl)) rfl
theorem wd300 : (Jvm.Cond.static ({ cls := "FormulaShapes", name := "needSign", desc := "(LFormulaShapes$Family;)V" } : Jvm.MethodName)) ∈ lw_big := lw_bg (lw_m2 (List.mem_of_getElem? (l := tables_1_2) (i := 60) rfl)) rfl
theorem wd301 : (Jvm.Cond.code ({ cls := "FormulaShapes", name := "needSign", desc := "(LFormulaShapes$Family;)V" } : Jvm.MethodName) prog_1_method_24_code (1 : Nat) (Option.none : Option Jvm.ClassFile.FieldType)) ∈ lw_big := lw_bg (lw_m2 (List.mem_of_getElem? (l := tables_1_2) (i := 61) rfl)) rfl
theorem wd302 : (Jvm.Cond.classLink "FormulaShapes" (212 : Nat) "java/lang/IllegalStateException") ∈ lw_big := lw_bg (lw_m2 (List.mem_of_getElem? (l := tables_1_2) (i := 62) rfl)) rfl
theorem wd303 : (Jvm.Cond.instantiable "java/lang/IllegalStateException" (6 : Nat)) ∈ lw_big := lw_bg (lw_m2 (List.mem_of_getElem? (l := tables_1_2) (i := 63) rfl)) rfl
theorem wd304 : (Jvm.Cond.castable "java/lang/IllegalStateException" "java/lang/IllegalStateException") ∈ lw_big := lw_bg (lw_m2 (List.mem_of_getElem? (l := tables_1_2) (i := 64) rfl)) rfl
theorem wd305 : (Jvm.Cond.selects "java/lang/IllegalStateException" ({ cls := "java/lang/Throwable", name := "fillInStackTrace", desc := "(I)Ljava/lang/Throwable;" } : Jvm.MethodName) ({ cls := "java/lang/Throwable", name := "fillInStackTrace", desc := "(I)Ljava/lang/Throwable;" } : Jvm.MethodName)) ∈ lw_big := lw_bg (lw_m2 (List.mem_of_getElem? (l := tables_1_2) (i := 65) rfl)) rfl
theorem wd306 : (Jvm.Cond.lays "java/lang/IllegalStateException" "java/lang/Throwable" "cause" "Ljava/lang/Throwable;") ∈ lw_big := lw_bg (lw_m2 (List.mem_of_getElem? (l := tables_1_2) (i := 66) rfl)) rfl
theorem wd307 : (Jvm.Cond.lays "java/lang/IllegalStateException" "java/lang/Throwable" "stackTrace" "[Ljava/lang/StackTraceElement;") ∈ lw_big := lw_bg (lw_m2 (List.mem_of_getElem? (l := tables_1_2) (i := 67) rfl)) rfl
theorem wd308 : (Jvm.Cond.lays "java/lang/IllegalStateException" "java/lang/Throwable" "suppressedExceptions" "Ljava/util/List;") ∈ lw_big := lw_bg (lw_m2 (List.mem_of_getElem? (l := tables_1_2) (i := 68) rfl)) rfl
theorem wd309 : (Jvm.Cond.lays "java/lang/IllegalStateException" "java/lang/Throwable" "detailMessage" "Ljava/lang/String;") ∈ lw_big := lw_bg (lw_m2 (List.mem_of_getElem? (l := tables_1_2) (i := 69) rfl)) rfl
theorem wd310 : (Jvm.Cond.lays "java/lang/IllegalStateException" "java/lang/Throwable" "backtrace" "Ljava/lang/Object;") ∈ lw_big := lw_bg (lw_m2 (List.mem_of_getElem? (l := tables_1_2) (i := 70) rfl)) rfl
theorem wd311 : (Jvm.Cond.stringRef "FormulaShapes" (214 : Nat) "the family has neither boxes nor pieces") ∈ tables_1 := lw_m2 (List.mem_of_getElem? (l := tables_1_2) (i := 71) rfl)
theorem wd312 : (Jvm.Cond.methodLink "FormulaShapes" (216 : Nat) ({ cls := "java/lang/IllegalStateException", name := "<init>", desc := "(Ljava/lang/String;)V" } : Jvm.MethodName)) ∈ lw_big := lw_bg (lw_m2 (List.mem_of_getElem? (l := tables_1_2) (i := 72) rfl)) rfl
theorem wd313 : (Jvm.Cond.instanceMethod ({ cls := "java/lang/IllegalStateException", name := "<init>", desc := "(Ljava/lang/String;)V" } : Jvm.MethodName)) ∈ lw_big := lw_bg (lw_m2 (List.mem_of_getElem? (l := tables_1_2) (i := 73) rfl)) rfl
theorem wd314 : (Jvm.Cond.code ({ cls := "java/lang/IllegalStateException", name := "<init>", desc := "(Ljava/lang/String;)V" } : Jvm.MethodName) prog_9_method_2_code (2 : Nat) (Option.none : Option Jvm.ClassFile.FieldType)) ∈ lw_big := lw_bg (lw_m2 (List.mem_of_getElem? (l := tables_1_2) (i := 74) rfl)) rfl
theorem wd315 : (Jvm.Cond.methodLink "java/lang/IllegalStateException" (7 : Nat) ({ cls := "java/lang/RuntimeException", name := "<init>", desc := "(Ljava/lang/String;)V" } : Jvm.MethodName)) ∈ lw_big := lw_bg (lw_m2 (List.mem_of_getElem? (l := tables_1_2) (i := 75) rfl)) rfl
theorem wd316 : (Jvm.Cond.lays "java/lang/IllegalStateException" "java/lang/Throwable" "depth" "I") ∈ lw_big := lw_bg (lw_m2 (List.mem_of_getElem? (l := tables_1_2) (i := 76) rfl)) rfl
theorem wd317 : (Jvm.Cond.superclass "java/lang/IllegalStateException" "java/lang/RuntimeException") ∈ lw_big := lw_bg (lw_m2 (List.mem_of_getElem? (l := tables_1_2) (i := 77) rfl)) rfl
theorem wd318 : (Jvm.Cond.methodLink "FormulaShapes" (110 : Nat) ({ cls := "FormulaShapes", name := "readySign", desc := "(LFormulaShapes$Family;I)I" } : Jvm.MethodName)) ∈ lw_big := lw_bg (lw_m2 (List.mem_of_getElem? (l := tables_1_2) (i := 78) rfl)) rfl
theorem wd319 : (Jvm.Cond.privateMethod ({ cls := "FormulaShapes", name := "readySign", desc := "(LFormulaShapes$Family;I)I" } : Jvm.MethodName)) ∈ tables_1 := lw_m2 (List.mem_of_getElem? (l := tables_1_2) (i := 79) rfl)
theorem wd320 : (Jvm.Cond.instanceMethod ({ cls := "FormulaShapes", name := "readySign", desc := "(LFormulaShapes$Family;I)I" } : Jvm.MethodName)) ∈ lw_big := lw_bg (lw_m2 (List.mem_of_getElem? (l := tables_1_2) (i := 80) rfl)) rfl
theorem wd321 : (Jvm.Cond.code ({ cls := "FormulaShapes", name := "readySign", desc := "(LFormulaShapes$Family;I)I" } : Jvm.MethodName) prog_1_method_35_code (4 : Nat) (Option.some Jvm.ClassFile.FieldType.int)) ∈ lw_big := lw_bg (lw_m2 (List.mem_of_getElem? (l := tables_1_2) (i := 81) rfl)) rfl
theorem wd322 : (Jvm.Cond.methodLink "FormulaShapes" (114 : Nat) ({ cls := "FormulaShapes", name := "newBoxesFor", desc := "(I)I" } : Jvm.MethodName)) ∈ lw_big := lw_bg (lw_m2 (List.mem_of_getElem? (l := tables_1_2) (i := 82) rfl)) rfl
theorem wd323 : (Jvm.Cond.static ({ cls := "FormulaShapes", name := "newBoxesFor", desc := "(I)I" } : Jvm.MethodName)) ∈ lw_big := lw_bg (lw_m2 (List.mem_of_getElem? (l := tables_1_2) (i := 83) rfl)) rfl
theorem wd324 : (Jvm.Cond.code ({ cls := "FormulaShapes", name := "newBoxesFor", desc := "(I)I" } : Jvm.MethodName) prog_1_method_36_code (1 : Nat) (Option.some Jvm.ClassFile.FieldType.int)) ∈ lw_big := lw_bg (lw_m2 (List.mem_of_getElem? (l := tables_1_2) (i := 84) rfl)) rfl
theorem wd325 : (Jvm.Cond.methodLink "FormulaShapes" (117 : Nat) ({ cls := "FormulaShapes", name := "keptSign", desc := "(LFormulaShapes$Family;II)I" } : Jvm.MethodName)) ∈ lw_big := lw_bg (lw_m2 (List.mem_of_getElem? (l := tables_1_2) (i := 85) rfl)) rfl
theorem wd326 : (Jvm.Cond.privateMethod ({ cls := "FormulaShapes", name := "keptSign", desc := "(LFormulaShapes$Family;II)I" } : Jvm.MethodName)) ∈ tables_1 := lw_m2 (List.mem_of_getElem? (l := tables_1_2) (i := 86) rfl)
theorem wd327 : (Jvm.Cond.instanceMethod ({ cls := "FormulaShapes", name := "keptSign", desc := "(LFormulaShapes$Family;II)I" } : Jvm.MethodName)) ∈ lw_big := lw_bg (lw_m2 (List.mem_of_getElem? (l := tables_1_2) (i := 87) rfl)) rfl
theorem wd328 : (Jvm.Cond.code ({ cls := "FormulaShapes", name := "keptSign", desc := "(LFormulaShapes$Family;II)I" } : Jvm.MethodName) prog_1_method_37_code (4 : Nat) (Option.some Jvm.ClassFile.FieldType.int)) ∈ lw_big := lw_bg (lw_m2 (List.mem_of_getElem? (l := tables_1_2) (i := 88) rfl)) rfl
theorem wd329 : (Jvm.Cond.methodLink "FormulaShapes" (231 : Nat) ({ cls := "FormulaShapes", name := "putTogether", desc := "(LFormulaShapes$Family;I)LFormulaShapes$Box;" } : Jvm.MethodName)) ∈ lw_big := lw_bg (lw_m2 (List.mem_of_getElem? (l := tables_1_2) (i := 89) rfl)) rfl
theorem wd330 : (Jvm.Cond.privateMethod ({ cls := "FormulaShapes", name := "putTogether", desc := "(LFormulaShapes$Family;I)LFormulaShapes$Box;" } : Jvm.MethodName)) ∈ tables_1 := lw_m2 (List.mem_of_getElem? (l := tables_1_2) (i := 90) rfl)
theorem wd331 : (Jvm.Cond.instanceMethod ({ cls := "FormulaShapes", name := "putTogether", desc := "(LFormulaShapes$Family;I)LFormulaShapes$Box;" } : Jvm.MethodName)) ∈ lw_big := lw_bg (lw_m2 (List.mem_of_getElem? (l := tables_1_2) (i := 91) rfl)) rfl
theorem wd332 : (Jvm.Cond.code ({ cls := "FormulaShapes", name := "putTogether", desc := "(LFormulaShapes$Family;I)LFormulaShapes$Box;" } : Jvm.MethodName) prog_1_method_38_code (10 : Nat) (Option.some (Jvm.ClassFile.FieldType.object "FormulaShapes$Box"))) ∈ lw_big := lw_bg (lw_m2 (List.mem_of_getElem? (l := tables_1_2) (i := 92) rfl)) rfl
theorem wd333 : (Jvm.Cond.methodLink "FormulaShapes" (235 : Nat) ({ cls := "FormulaShapes", name := "oneIfThere", desc := "(I)I" } : Jvm.MethodName)) ∈ lw_big := lw_bg (lw_m2 (List.mem_of_getElem? (l := tables_1_2) (i := 93) rfl)) rfl
theorem wd334 : (Jvm.Cond.static ({ cls := "FormulaShapes", name := "oneIfThere", desc := "(I)I" } : Jvm.MethodName)) ∈ lw_big := lw_bg (lw_m2 (List.mem_of_getElem? (l := tables_1_2) (i := 94) rfl)) rfl
theorem wd335 : (Jvm.Cond.code ({ cls := "FormulaShapes", name := "oneIfThere", desc := "(I)I" } : Jvm.MethodName) prog_1_method_39_code (1 : Nat) (Option.some Jvm.ClassFile.FieldType.int)) ∈ lw_big := lw_bg (lw_m2 (List.mem_of_getElem? (l := tables_1_2) (i := 95) rfl)) rfl
theorem wd336 : (Jvm.Cond.classLink "FormulaShapes" (238 : Nat) "FormulaShapes$Pile") ∈ lw_big := lw_bg (lw_m2 (List.mem_of_getElem? (l := tables_1_2) (i := 96) rfl)) rfl
theorem wd337 : (Jvm.Cond.instantiable "FormulaShapes$Pile" (4 : Nat)) ∈ lw_big := lw_bg (lw_m2 (List.mem_of_getElem? (l := tables_1_2) (i := 97) rfl)) rfl
theorem wd338 : (Jvm.Cond.methodLink "FormulaShapes" (240 : Nat) ({ cls := "FormulaShapes$Pile", name := "<init>", desc := "(I)V" } : Jvm.MethodName)) ∈ lw_big := lw_bg (lw_m2 (List.mem_of_getElem? (l := tables_1_2) (i := 98) rfl)) rfl
theorem wd339 : (Jvm.Cond.instanceMethod ({ cls := "FormulaShapes$Pile", name := "<init>", desc := "(I)V" } : Jvm.MethodName)) ∈ lw_big := lw_bg (lw_m2 (List.mem_of_getElem? (l := tables_1_2) (i := 99) rfl)) rfl
theorem wd340 : (Jvm.Cond.code ({ cls := "FormulaShapes$Pile", name := "<init>", desc := "(I)V" } : Jvm.MethodName) prog_4_method_1_code (2 : Nat) (Option.none : Option Jvm.ClassFile.FieldType)) ∈ lw_big := lw_bg (lw_m2 (List.mem_of_getElem? (l := tables_1_2) (i := 100) rfl)) rfl
theorem wd341 : (Jvm.Cond.methodLink "FormulaShapes$Pile" (3 : Nat) ({ cls := "java/lang/Object", name := "<init>", desc := "()V" } : Jvm.MethodName)) ∈ lw_big := lw_bg (lw_m2 (List.mem_of_getElem? (l := tables_1_2) (i := 101) rfl)) rfl
theorem wd342 : (Jvm.Cond.fieldLink "FormulaShapes$Pile" (9 : Nat) "FormulaShapes$Pile" "places" "[I") ∈ lw_big := lw_bg (lw_m2 (List.mem_of_getElem? (l := tables_1_2) (i := 102) rfl)) rfl
theorem wd343 : (Jvm.Cond.fieldLink "FormulaShapes$Pile" (15 : Nat) "FormulaShapes$Pile" "filled" "I") ∈ lw_big := lw_bg (lw_m2 (List.mem_of_getElem? (l := tables_1_2) (i := 103) rfl)) rfl
theorem wd344 : (Jvm.Cond.fieldLink "FormulaShapes$Pile" (31 : Nat) "FormulaShapes$Pile" "top" "I") ∈ lw_big := lw_bg (lw_m2 (List.mem_of_getElem? (l := tables_1_2) (i := 104) rfl)) rfl
theorem wd345 : (Jvm.Cond.fieldLink "FormulaShapes$Pile" (24 : Nat) "FormulaShapes$Pile" "width" "I") ∈ lw_big := lw_bg (lw_m2 (List.mem_of_getElem? (l := tables_1_2) (i := 105) rfl)) rfl
theorem wd346 : (Jvm.Cond.laysFinal "FormulaShapes$Pile" "FormulaShapes$Pile" "places" "[I") ∈ lw_big := lw_bg (lw_m2 (List.mem_of_getElem? (l := tables_1_2) (i := 106) rfl)) rfl
theorem wd347 : (Jvm.Cond.soleField "FormulaShapes$Pile" "places") ∈ lw_big := lw_bg (lw_m2 (List.mem_of_getElem? (l := tables_1_2) (i := 107) rfl)) rfl
theorem wd348 : (Jvm.Cond.lays "FormulaShapes$Pile" "FormulaShapes$Pile" "filled" "I") ∈ lw_big := lw_bg (lw_m2 (List.mem_of_getElem? (l := tables_1_2) (i := 108) rfl)) rfl
theorem wd349 : (Jvm.Cond.soleField "FormulaShapes$Pile" "filled") ∈ lw_big := lw_bg (lw_m2 (List.mem_of_getElem? (l := tables_1_2) (i := 109) rfl)) rfl
theorem wd350 : (Jvm.Cond.lays "FormulaShapes$Pile" "FormulaShapes$Pile" "top" "I") ∈ lw_big := lw_bg (lw_m2 (List.mem_of_getElem? (l := tables_1_2) (i := 110) rfl)) rfl
theorem wd351 : (Jvm.Cond.soleField "FormulaShapes$Pile" "top") ∈ lw_big := lw_bg (lw_m2 (List.mem_of_getElem? (l := tables_1_2) (i := 111) rfl)) rfl
theorem wd352 : (Jvm.Cond.lays "FormulaShapes$Pile" "FormulaShapes$Pile" "width" "I") ∈ lw_big := lw_bg (lw_m2 (List.mem_of_getElem? (l := tables_1_2) (i := 112) rfl)) rfl
theorem wd353 : (Jvm.Cond.soleField "FormulaShapes$Pile" "width") ∈ lw_big := lw_bg (lw_m2 (List.mem_of_getElem? (l := tables_1_2) (i := 113) rfl)) rfl
theorem wd354 : (Jvm.Cond.superclass "FormulaShapes$Pile" "java/lang/Object") ∈ lw_big := lw_bg (lw_m2 (List.mem_of_getElem? (l := tables_1_2) (i := 114) rfl)) rfl
theorem wd355 : (Jvm.Cond.methodLink "FormulaShapes" (242 : Nat) ({ cls := "FormulaShapes", name := "pileUp", desc := "(LFormulaShapes$Pile;II)V" } : Jvm.MethodName)) ∈ lw_big := lw_bg (lw_m2 (List.mem_of_getElem? (l := tables_1_2) (i := 115) rfl)) rfl
theorem wd356 : (Jvm.Cond.privateMethod ({ cls := "FormulaShapes", name := "pileUp", desc := "(LFormulaShapes$Pile;II)V" } : Jvm.MethodName)) ∈ tables_1 := lw_m2 (List.mem_of_getElem? (l := tables_1_2) (i := 116) rfl)
theorem wd357 : (Jvm.Cond.instanceMethod ({ cls := "FormulaShapes", name := "pileUp", desc := "(LFormulaShapes$Pile;II)V" } : Jvm.MethodName)) ∈ lw_big := lw_bg (lw_m2 (List.mem_of_getElem? (l := tables_1_2) (i := 117) rfl)) rfl
theorem wd358 : (Jvm.Cond.code ({ cls := "FormulaShapes", name := "pileUp", desc := "(LFormulaShapes$Pile;II)V" } : Jvm.MethodName) prog_1_method_40_code (5 : Nat) (Option.none : Option Jvm.ClassFile.FieldType)) ∈ lw_big := lw_bg (lw_m2 (List.mem_of_getElem? (l := tables_1_2) (i := 118) rfl)) rfl
theorem wd359 : (Jvm.Cond.methodLink "FormulaShapes" (250 : Nat) ({ cls := "FormulaShapes$Pile", name := "put", desc := "(ILFormulaShapes$Box;)V" } : Jvm.MethodName)) ∈ lw_big := lw_bg (lw_m2 (List.mem_of_getElem? (l := tables_1_2) (i := 119) rfl)) rfl
theorem wd360 : (Jvm.Cond.instanceMethod ({ cls := "FormulaShapes$Pile", name := "put", desc := "(ILFormulaShapes$Box;)V" } : Jvm.MethodName)) ∈ lw_big := lw_bg (lw_m2 (List.mem_of_getElem? (l := tables_1_2) (i := 120) rfl)) rfl
theorem wd361 : (Jvm.Cond.selects "FormulaShapes$Pile" ({ cls := "FormulaShapes$Pile", name := "put", desc := "(ILFormulaShapes$Box;)V" } : Jvm.MethodName) ({ cls := "FormulaShapes$Pile", name := "put", desc := "(ILFormulaShapes$Box;)V" } : Jvm.MethodName)) ∈ lw_big := lw_bg (lw_m2 (List.mem_of_getElem? (l := tables_1_2) (i := 121) rfl)) rfl
theorem wd362 : (Jvm.Cond.code ({ cls := "FormulaShapes$Pile", name := "put", desc := "(ILFormulaShapes$Box;)V" } : Jvm.MethodName) prog_4_method_2_code (3 : Nat) (Option.none : Option Jvm.ClassFile.FieldType)) ∈ lw_big := lw_bg (lw_m2 (List.mem_of_getElem? (l := tables_1_2) (i := 122) rfl)) rfl
theorem wd363 : (Jvm.Cond.methodLink "FormulaShapes$Pile" (25 : Nat) ({ cls := "java/lang/Math", name := "max", desc := "(II)I" } : Jvm.MethodName)) ∈ lw_big := lw_bg (lw_m2 (List.mem_of_getElem? (l := tables_1_2) (i := 123) rfl)) rfl
theorem wd364 : (Jvm.Cond.static ({ cls := "java/lang/Math", name := "max", desc := "(II)I" } : Jvm.MethodName)) ∈ lw_big := lw_bg (lw_m2 (List.mem_of_getElem? (l := tables_1_2) (i := 124) rfl)) rfl
theorem wd365 : (Jvm.Cond.code ({ cls := "java/lang/Math", name := "max", desc := "(II)I" } : Jvm.MethodName) prog_11_method_65_code (2 : Nat) (Option.some Jvm.ClassFile.FieldType.int)) ∈ lw_big := lw_bg (lw_m2 (List.mem_of_getElem? (l := tables_1_2) (i := 125) rfl)) rfl
theorem wd366 : (Jvm.Cond.methodLink "FormulaShapes" (246 : Nat) ({ cls := "FormulaShapes$Pile", name := "asBox", desc := "()LFormulaShapes$Box;" } : Jvm.MethodName)) ∈ lw_big := lw_bg (lw_m2 (List.mem_of_getElem? (l := tables_1_2) (i := 126) rfl)) rfl
theorem wd367 : (Jvm.Cond.instanceMethod ({ cls := "FormulaShapes$Pile", name := "asBox", desc := "()LFormulaShapes$Box;" } : Jvm.MethodName)) ∈ lw_big := lw_bg (lw_m2 (List.mem_of_getElem? (l := tables_1_2) (i := 127) rfl)) rfl
theorem wd368 : (Jvm.Cond.selects "FormulaShapes$Pile" ({ cls := "FormulaShapes$Pile", name := "asBox", desc := "()LFormulaShapes$Box;" } : Jvm.MethodName) ({ cls := "FormulaShapes$Pile", name := "asBox", desc := "()LFormulaShapes$Box;" } : Jvm.MethodName)) ∈ lw_big := lw_bg (lw_m2 (List.mem_of_getElem? (l := tables_1_2) (i := 128) rfl)) rfl
theorem wd369 : (Jvm.Cond.code ({ cls := "FormulaShapes$Pile", name := "asBox", desc := "()LFormulaShapes$Box;" } : Jvm.MethodName) prog_4_method_3_code (1 : Nat) (Option.some (Jvm.ClassFile.FieldType.object "FormulaShapes$Box"))) ∈ lw_big := lw_bg (lw_m2 (List.mem_of_getElem? (l := tables_1_2) (i := 129) rfl)) rfl
theorem wd370 : (Jvm.Cond.classLink "FormulaShapes$Pile" (20 : Nat) "FormulaShapes$Box") ∈ lw_big := lw_bg (lw_m2 (List.mem_of_getElem? (l := tables_1_2) (i := 130) rfl)) rfl
theorem wd371 : (Jvm.Cond.methodLink "FormulaShapes$Pile" (40 : Nat) ({ cls := "FormulaShapes$Box", name := "<init>", desc := "(III[I)V" } : Jvm.MethodName)) ∈ lw_big := lw_bg (lw_m2 (List.mem_of_getElem? (l := tables_1_2) (i := 131) rfl)) rfl
theorem wd372 : (Jvm.Cond.methodLink "FormulaShapesLaw" (98 : Nat) ({ cls := "FormulaShapesLaw", name := "fraction", desc := "(LFormulaShapes;IIII[J)I" } : Jvm.MethodName)) ∈ lw_big := lw_bg (lw_m2 (List.mem_of_getElem? (l := tables_1_2) (i := 132) rfl)) rfl
theorem wd373 : (Jvm.Cond.static ({ cls := "FormulaShapesLaw", name := "fraction", desc := "(LFormulaShapes;IIII[J)I" } : Jvm.MethodName)) ∈ lw_big := lw_bg (lw_m2 (List.mem_of_getElem? (l := tables_1_2) (i := 133) rfl)) rfl
theorem wd374 : (Jvm.Cond.codeWith ({ cls := "FormulaShapesLaw", name := "fraction", desc := "(LFormulaShapes;IIII[J)I" } : Jvm.MethodName) method_9_code (7 : Nat) (Option.some Jvm.ClassFile.FieldType.int) [((0 : Nat), (14 : Nat), (17 : Nat), (13 : Nat)), ((0 : Nat), (14 : Nat), (21 : Nat), (15 : Nat)), ((0 : Nat), (14 : Nat), (25 : Nat), (24 : Nat))]) ∈ lw_big := lw_bg (lw_m2 (List.mem_of_getElem? (l := tables_1_2) (i := 134) rfl)) rfl
theorem wd375 : (Jvm.Cond.methodLink "FormulaShapesLaw" (38 : Nat) ({ cls := "FormulaShapes", name := "fraction", desc := "(IIII)I" } : Jvm.MethodName)) ∈ lw_big := lw_bg (lw_m2 (List.mem_of_getElem? (l := tables_1_2) (i := 135) rfl)) rfl
theorem wd376 : (Jvm.Cond.instanceMethod ({ cls := "FormulaShapes", name := "fraction", desc := "(IIII)I" } : Jvm.MethodName)) ∈ lw_big := lw_bg (lw_m2 (List.mem_of_getElem? (l := tables_1_2) (i := 136) rfl)) rfl
theorem wd377 : (Jvm.Cond.selects "FormulaShapes" ({ cls := "FormulaShapes", name := "fraction", desc := "(IIII)I" } : Jvm.MethodName) ({ cls := "FormulaShapes", name := "fraction", desc := "(IIII)I" } : Jvm.MethodName)) ∈ lw_big := lw_bg (lw_m2 (List.mem_of_getElem? (l := tables_1_2) (i := 137) rfl)) rfl
theorem wd378 : (Jvm.Cond.code ({ cls := "FormulaShapes", name := "fraction", desc := "(IIII)I" } : Jvm.MethodName) prog_1_method_8_code (5 : Nat) (Option.some Jvm.ClassFile.FieldType.int)) ∈ lw_big := lw_bg (lw_m2 (List.mem_of_getElem? (l := tables_1_2) (i := 138) rfl)) rfl
theorem wd379 : (Jvm.Cond.methodLink "FormulaShapes" (121 : Nat) ({ cls := "FormulaShapes", name := "needStyle", desc := "(I)V" } : Jvm.MethodName)) ∈ lw_big := lw_bg (lw_m2 (List.mem_of_getElem? (l := tables_1_2) (i := 139) rfl)) rfl
theorem wd380 : (Jvm.Cond.static ({ cls := "FormulaShapes", name := "needStyle", desc := "(I)V" } : Jvm.MethodName)) ∈ lw_big := lw_bg (lw_m2 (List.mem_of_getElem? (l := tables_1_2) (i := 140) rfl)) rfl
theorem wd381 : (Jvm.Cond.code ({ cls := "FormulaShapes", name := "needStyle", desc := "(I)V" } : Jvm.MethodName) prog_1_method_21_code (1 : Nat) (Option.none : Option Jvm.ClassFile.FieldType)) ∈ lw_big := lw_bg (lw_m2 (List.mem_of_getElem? (l := tables_1_2) (i := 141) rfl)) rfl
theorem wd382 : (Jvm.Cond.stringRef "FormulaShapes" (206 : Nat) "no such style") ∈ tables_1 := lw_m2 (List.mem_of_getElem? (l := tables_1_2) (i := 142) rfl)
theorem wd383 : (Jvm.Cond.methodLink "FormulaShapes" (124 : Nat) ({ cls := "FormulaShapes", name := "fractionWithLine", desc := "(IIII)LFormulaShapes$Box;" } : Jvm.MethodName)) ∈ lw_big := lw_bg (lw_m2 (List.mem_of_getElem? (l := tables_1_2) (i := 143) rfl)) rfl
theorem wd384 : (Jvm.Cond.privateMethod ({ cls := "FormulaShapes", name := "fractionWithLine", desc := "(IIII)LFormulaShapes$Box;" } : Jvm.MethodName)) ∈ tables_1 := lw_m2 (List.mem_of_getElem? (l := tables_1_2) (i := 144) rfl)
theorem wd385 : (Jvm.Cond.instanceMethod ({ cls := "FormulaShapes", name := "fractionWithLine", desc := "(IIII)LFormulaShapes$Box;" } : Jvm.MethodName)) ∈ lw_big := lw_bg (lw_m2 (List.mem_of_getElem? (l := tables_1_2) (i := 145) rfl)) rfl
theorem wd386 : (Jvm.Cond.code ({ cls := "FormulaShapes", name := "fractionWithLine", desc := "(IIII)LFormulaShapes$Box;" } : Jvm.MethodName) prog_1_method_42_code (13 : Nat) (Option.some (Jvm.ClassFile.FieldType.object "FormulaShapes$Box"))) ∈ lw_big := lw_bg (lw_m2 (List.mem_of_getElem? (l := tables_1_2) (i := 146) rfl)) rfl
theorem wd387 : (Jvm.Cond.methodLink "FormulaShapes" (135 : Nat) ({ cls := "FormulaShapes", name := "valueOf", desc := "(II)I" } : Jvm.MethodName)) ∈ lw_big := lw_bg (lw_m2 (List.mem_of_getElem? (l := tables_1_2) (i := 147) rfl)) rfl
theorem wd388 : (Jvm.Cond.privateMethod ({ cls := "FormulaShapes", name := "valueOf", desc := "(II)I" } : Jvm.MethodName)) ∈ tables_1 := lw_m2 (List.mem_of_getElem? (l := tables_1_2) (i := 148) rfl)
theorem wd389 : (Jvm.Cond.instanceMethod ({ cls := "FormulaShapes", name := "valueOf", desc := "(II)I" } : Jvm.MethodName)) ∈ lw_big := lw_bg (lw_m2 (List.mem_of_getElem? (l := tables_1_2) (i := 149) rfl)) rfl
theorem wd390 : (Jvm.Cond.code ({ cls := "FormulaShapes", name := "valueOf", desc := "(II)I" } : Jvm.MethodName) prog_1_method_31_code (4 : Nat) (Option.some Jvm.ClassFile.FieldType.int)) ∈ lw_big := lw_bg (lw_m2 (List.mem_of_getElem? (l := tables_1_2) (i := 150) rfl)) rfl
theorem wd391 : (Jvm.Cond.methodLink "FormulaShapes" (228 : Nat) ({ cls := "FormulaShapes", name := "half", desc := "(I)I" } : Jvm.MethodName)) ∈ lw_big := lw_bg (lw_m2 (List.mem_of_getElem? (l := tables_1_2) (i := 151) rfl)) rfl
theorem wd392 : (Jvm.Cond.static ({ cls := "FormulaShapes", name := "half", desc := "(I)I" } : Jvm.MethodName)) ∈ lw_big := lw_bg (lw_m2 (List.mem_of_getElem? (l := tables_1_2) (i := 152) rfl)) rfl
theorem wd393 : (Jvm.Cond.code ({ cls := "FormulaShapes", name := "half", desc := "(I)I" } : Jvm.MethodName) prog_1_method_32_code (1 : Nat) (Option.some Jvm.ClassFile.FieldType.int)) ∈ lw_big := lw_bg (lw_m2 (List.mem_of_getElem? (l := tables_1_2) (i := 153) rfl)) rfl
theorem wd394 : (Jvm.Cond.methodLink "FormulaShapes" (155 : Nat) ({ cls := "FormulaShapes", name := "depthOf", desc := "(I)I" } : Jvm.MethodName)) ∈ lw_big := lw_bg (lw_m2 (List.mem_of_getElem? (l := tables_1_2) (i := 154) rfl)) rfl
theorem wd395 : (Jvm.Cond.privateMethod ({ cls := "FormulaShapes", name := "depthOf", desc := "(I)I" } : Jvm.MethodName)) ∈ tables_1 := lw_m2 (List.mem_of_getElem? (l := tables_1_2) (i := 155) rfl)
theorem wd396 : (Jvm.Cond.instanceMethod ({ cls := "FormulaShapes", name := "depthOf", desc := "(I)I" } : Jvm.MethodName)) ∈ lw_big := lw_bg (lw_m2 (List.mem_of_getElem? (l := tables_1_2) (i := 156) rfl)) rfl
theorem wd397 : (Jvm.Cond.code ({ cls := "FormulaShapes", name := "depthOf", desc := "(I)I" } : Jvm.MethodName) prog_1_method_29_code (2 : Nat) (Option.some Jvm.ClassFile.FieldType.int)) ∈ lw_big := lw_bg (lw_m2 (List.mem_of_getElem? (l := tables_1_2) (i := 157) rfl)) rfl
theorem wd398 : (Jvm.Cond.methodLink "FormulaShapes" (139 : Nat) ({ cls := "java/lang/Math", name := "max", desc := "(II)I" } : Jvm.MethodName)) ∈ lw_big := lw_bg (lw_m2 (List.mem_of_getElem? (l := tables_1_2) (i := 158) rfl)) rfl
theorem wd399 : (Jvm.Cond.methodLink "FormulaShapes" (152 : Nat) ({ cls := "FormulaShapes", name := "heightOf", desc := "(I)I" } : Jvm.MethodName)) ∈ lw_big := lw_bg (lw_m2 (List.mem_of_getElem? (l := tables_1_2) (i := 159) rfl)) rfl
theorem wd400 : (Jvm.Cond.privateMethod ({ cls := "FormulaShapes", name := "heightOf", desc := "(I)I" } : Jvm.MethodName)) ∈ tables_1 := lw_m2 (List.mem_of_getElem? (l := tables_1_2) (i := 160) rfl)
theorem wd401 : (Jvm.Cond.instanceMethod ({ cls := "FormulaShapes", name := "heightOf", desc := "(I)I" } : Jvm.MethodName)) ∈ lw_big := lw_bg (lw_m2 (List.mem_of_getElem? (l := tables_1_2) (i := 161) rfl)) rfl
theorem wd402 : (Jvm.Cond.code ({ cls := "FormulaShapes", name := "heightOf", desc := "(I)I" } : Jvm.MethodName) prog_1_method_28_code (2 : Nat) (Option.some Jvm.ClassFile.FieldType.int)) ∈ lw_big := lw_bg (lw_m2 (List.mem_of_getElem? (l := tables_1_2) (i := 162) rfl)) rfl
theorem wd403 : (Jvm.Cond.methodLink "FormulaShapes" (162 : Nat) ({ cls := "FormulaShapes", name := "widthOf", desc := "(I)I" } : Jvm.MethodName)) ∈ lw_big := lw_bg (lw_m2 (List.mem_of_getElem? (l := tables_1_2) (i := 163) rfl)) rfl
theorem wd404 : (Jvm.Cond.privateMethod ({ cls := "FormulaShapes", name := "widthOf", desc := "(I)I" } : Jvm.MethodName)) ∈ tables_1 := lw_m2 (List.mem_of_getElem? (l := tables_1_2) (i := 164) rfl)
theorem wd405 : (Jvm.Cond.instanceMethod ({ cls := "FormulaShapes", name := "widthOf", desc := "(I)I" } : Jvm.MethodName)) ∈ lw_big := lw_bg (lw_m2 (List.mem_of_getElem? (l := tables_1_2) (i := 165) rfl)) rfl
theorem wd406 : (Jvm.Cond.code ({ cls := "FormulaShapes", name := "widthOf", desc := "(I)I" } : Jvm.MethodName) prog_1_method_27_code (2 : Nat) (Option.some Jvm.ClassFile.FieldType.int)) ∈ lw_big := lw_bg (lw_m2 (List.mem_of_getElem? (l := tables_1_2) (i := 166) rfl)) rfl
theorem wd407 : (Jvm.Cond.methodLink "FormulaShapes" (254 : Nat) ({ cls := "FormulaShapes$Box", name := "<init>", desc := "(III[III)V" } : Jvm.MethodName)) ∈ lw_big := lw_bg (lw_m2 (List.mem_of_getElem? (l := tables_1_2) (i := 167) rfl)) rfl
theorem wd408 : (Jvm.Cond.methodLink "FormulaShapes" (128 : Nat) ({ cls := "FormulaShapes", name := "fractionBare", desc := "(III)LFormulaShapes$Box;" } : Jvm.MethodName)) ∈ lw_big := lw_bg (lw_m2 (List.mem_of_getElem? (l := tables_1_2) (i := 168) rfl)) rfl
theorem wd409 : (Jvm.Cond.privateMethod ({ cls := "FormulaShapes", name := "fractionBare", desc := "(III)LFormulaShapes$Box;" } : Jvm.MethodName)) ∈ tables_1 := lw_m2 (List.mem_of_getElem? (l := tables_1_2) (i := 169) rfl)
theorem wd410 : (Jvm.Cond.instanceMethod ({ cls := "FormulaShapes", name := "fractionBare", desc := "(III)LFormulaShapes$Box;" } : Jvm.MethodName)) ∈ lw_big := lw_bg (lw_m2 (List.mem_of_getElem? (l := tables_1_2) (i := 170) rfl)) rfl
theorem wd411 : (Jvm.Cond.code ({ cls := "FormulaShapes", name := "fractionBare", desc := "(III)LFormulaShapes$Box;" } : Jvm.MethodName) prog_1_method_41_code (10 : Nat) (Option.some (Jvm.ClassFile.FieldType.object "FormulaShapes$Box"))) ∈ lw_big := lw_bg (lw_m2 (List.mem_of_getElem? (l := tables_1_2) (i := 171) rfl)) rfl
theorem wd412 : (Jvm.Cond.methodLink "FormulaShapesLaw" (102 : Nat) ({ cls := "FormulaShapesLaw", name := "root", desc := "(LFormulaShapes;III[J)I" } : Jvm.MethodName)) ∈ lw_big := lw_bg (lw_m2 (List.mem_of_getElem? (l := tables_1_2) (i := 172) rfl)) rfl
theorem wd413 : (Jvm.Cond.static ({ cls := "FormulaShapesLaw", name := "root", desc := "(LFormulaShapes;III[J)I" } : Jvm.MethodName)) ∈ lw_big := lw_bg (lw_m2 (List.mem_of_getElem? (l := tables_1_2) (i := 173) rfl)) rfl
theorem wd414 : (Jvm.Cond.codeWith ({ cls := "FormulaShapesLaw", name := "root", desc := "(LFormulaShapes;III[J)I" } : Jvm.MethodName) method_10_code (6 : Nat) (Option.some Jvm.ClassFile.FieldType.int) [((0 : Nat), (12 : Nat), (15 : Nat), (13 : Nat)), ((0 : Nat), (12 : Nat), (19 : Nat), (15 : Nat)), ((0 : Nat), (12 : Nat), (23 : Nat), (36 : Nat)), ((0 : Nat), (12 : Nat), (27 : Nat), (24 : Nat))]) ∈ lw_big := lw_bg (lw_m2 (List.mem_of_getElem? (l := tables_1_2) (i := 174) rfl)) rfl
theorem wd415 : (Jvm.Cond.methodLink "FormulaShapesLaw" (42 : Nat) ({ cls := "FormulaShapes", name := "root", desc := "(III)I" } : Jvm.MethodName)) ∈ lw_big := lw_bg (lw_m2 (List.mem_of_getElem? (l := tables_1_2) (i := 175) rfl)) rfl
theorem wd416 : (Jvm.Cond.instanceMethod ({ cls := "FormulaShapes", name := "root", desc := "(III)I" } : Jvm.MethodName)) ∈ lw_big := lw_bg (lw_m2 (List.mem_of_getElem? (l := tables_1_2) (i := 176) rfl)) rfl
theorem wd417 : (Jvm.Cond.selects "FormulaShapes" ({ cls := "FormulaShapes", name := "root", desc := "(III)I" } : Jvm.MethodName) ({ cls := "FormulaShapes", name := "root", desc := "(III)I" } : Jvm.MethodName)) ∈ lw_big := lw_bg (lw_m2 (List.mem_of_getElem? (l := tables_1_2) (i := 177) rfl)) rfl
theorem wd418 : (Jvm.Cond.code ({ cls := "FormulaShapes", name := "root", desc := "(III)I" } : Jvm.MethodName) prog_1_method_9_code (9 : Nat) (Option.some Jvm.ClassFile.FieldType.int)) ∈ lw_big := lw_bg (lw_m2 (List.mem_of_getElem? (l := tables_1_2) (i := 178) rfl)) rfl
theorem wd419 : (Jvm.Cond.methodLink "FormulaShapes" (132 : Nat) ({ cls := "FormulaShapes", name := "rootClearance", desc := "(I)I" } : Jvm.MethodName)) ∈ lw_big := lw_bg (lw_m2 (List.mem_of_getElem? (l := tables_1_2) (i := 179) rfl)) rfl
theorem wd420 : (Jvm.Cond.privateMethod ({ cls := "FormulaShapes", name := "rootClearance", desc := "(I)I" } : Jvm.MethodName)) ∈ tables_1 := lw_m2 (List.mem_of_getElem? (l := tables_1_2) (i := 180) rfl)
theorem wd421 : (Jvm.Cond.instanceMethod ({ cls := "FormulaShapes", name := "rootClearance", desc := "(I)I" } : Jvm.MethodName)) ∈ lw_big := lw_bg (lw_m2 (List.mem_of_getElem? (l := tables_1_2) (i := 181) rfl)) rfl
theorem wd422 : (Jvm.Cond.code ({ cls := "FormulaShapes", name := "rootClearance", desc := "(I)I" } : Jvm.MethodName) prog_1_method_43_code (4 : Nat) (Option.some Jvm.ClassFile.FieldType.int)) ∈ lw_big := lw_bg (lw_m2 (List.mem_of_getElem? (l := tables_1_2) (i := 182) rfl)) rfl
theorem wd423 : (Jvm.Cond.methodLink "FormulaShapes" (257 : Nat) ({ cls := "java/lang/Math", name := "abs", desc := "(I)I" } : Jvm.MethodName)) ∈ lw_big := lw_bg (lw_m2 (List.mem_of_getElem? (l := tables_1_2) (i := 183) rfl)) rfl
theorem wd424 : (Jvm.Cond.static ({ cls := "java/lang/Math", name := "abs", desc := "(I)I" } : Jvm.MethodName)) ∈ lw_big := lw_bg (lw_m2 (List.mem_of_getElem? (l := tables_1_2) (i := 184) rfl)) rfl
theorem wd425 : (Jvm.Cond.code ({ cls := "java/lang/Math", name := "abs", desc := "(I)I" } : Jvm.MethodName) prog_11_method_59_code (1 : Nat) (Option.some Jvm.ClassFile.FieldType.int)) ∈ lw_big := lw_bg (lw_m2 (List.mem_of_getElem? (l := tables_1_2) (i := 185) rfl)) rfl
theorem wd426 : (Jvm.Cond.methodLink "FormulaShapes" (144 : Nat) ({ cls := "FormulaShapes", name := "rootShape", desc := "(IIIZ)LFormulaShapes$Box;" } : Jvm.MethodName)) ∈ lw_big := lw_bg (lw_m2 (List.mem_of_getElem? (l := tables_1_2) (i := 186) rfl)) rfl
theorem wd427 : (Jvm.Cond.privateMethod ({ cls := "FormulaShapes", name := "rootShape", desc := "(IIIZ)LFormulaShapes$Box;" } : Jvm.MethodName)) ∈ tables_1 := lw_m2 (List.mem_of_getElem? (l := tables_1_2) (i := 187) rfl)
theorem wd428 : (Jvm.Cond.instanceMethod ({ cls := "FormulaShapes", name := "rootShape", desc := "(IIIZ)LFormulaShapes$Box;" } : Jvm.MethodName)) ∈ lw_big := lw_bg (lw_m2 (List.mem_of_getElem? (l := tables_1_2) (i := 188) rfl)) rfl
theorem wd429 : (Jvm.Cond.code ({ cls := "FormulaShapes", name := "rootShape", desc := "(IIIZ)LFormulaShapes$Box;" } : Jvm.MethodName) prog_1_method_44_code (11 : Nat) (Option.some (Jvm.ClassFile.FieldType.object "FormulaShapes$Box"))) ∈ lw_big := lw_bg (lw_m2 (List.mem_of_getElem? (l := tables_1_2) (i := 189) rfl)) rfl
theorem wd430 : (Jvm.Cond.methodLink "FormulaShapesLaw" (105 : Nat) ({ cls := "FormulaShapesLaw", name := "signs", desc := "(LFormulaShapes;IZIZII[J)I" } : Jvm.MethodName)) ∈ lw_big := lw_bg (lw_m2 (List.mem_of_getElem? (l := tables_1_2) (i := 190) rfl)) rfl
theorem wd431 : (Jvm.Cond.static ({ cls := "FormulaShapesLaw", name := "signs", desc := "(LFormulaShapes;IZIZII[J)I" } : Jvm.MethodName)) ∈ lw_big := lw_bg (lw_m2 (List.mem_of_getElem? (l := tables_1_2) (i := 191) rfl)) rfl
theorem wd432 : (Jvm.Cond.codeWith ({ cls := "FormulaShapesLaw", name := "signs", desc := "(LFormulaShapes;IZIZII[J)I" } : Jvm.MethodName) method_11_code (9 : Nat) (Option.some Jvm.ClassFile.FieldType.int) [((0 : Nat), (18 : Nat), (21 : Nat), (13 : Nat)), ((0 : Nat), (18 : Nat), (25 : Nat), (15 : Nat)), ((0 : Nat), (18 : Nat), (29 : Nat), (24 : Nat))]) ∈ lw_big := lw_bg (lw_m2 (List.mem_of_getElem? (l := tables_1_2) (i := 192) rfl)) rfl
theorem wd433 : (Jvm.Cond.methodLink "FormulaShapesLaw" (45 : Nat) ({ cls := "FormulaShapes", name := "signs", desc := "(IZIZII)I" } : Jvm.MethodName)) ∈ lw_big := lw_bg (lw_m2 (List.mem_of_getElem? (l := tables_1_2) (i := 193) rfl)) rfl
theorem wd434 : (Jvm.Cond.instanceMethod ({ cls := "FormulaShapes", name := "signs", desc := "(IZIZII)I" } : Jvm.MethodName)) ∈ lw_big := lw_bg (lw_m2 (List.mem_of_getElem? (l := tables_1_2) (i := 194) rfl)) rfl
theorem wd435 : (Jvm.Cond.selects "FormulaShapes" ({ cls := "FormulaShapes", name := "signs", desc := "(IZIZII)I" } : Jvm.MethodName) ({ cls := "FormulaShapes", name := "signs", desc := "(IZIZII)I" } : Jvm.MethodName)) ∈ lw_big := lw_bg (lw_m2 (List.mem_of_getElem? (l := tables_1_2) (i := 195) rfl)) rfl
theorem wd436 : (Jvm.Cond.code ({ cls := "FormulaShapes", name := "signs", desc := "(IZIZII)I" } : Jvm.MethodName) prog_1_method_10_code (10 : Nat) (Option.some Jvm.ClassFile.FieldType.int)) ∈ lw_big := lw_bg (lw_m2 (List.mem_of_getElem? (l := tables_1_2) (i := 196) rfl)) rfl
theorem wd437 : (Jvm.Cond.methodLink "FormulaShapes" (148 : Nat) ({ cls := "FormulaShapes", name := "needOneOf", desc := "(II)V" } : Jvm.MethodName)) ∈ lw_big := lw_bg (lw_m2 (List.mem_of_getElem? (l := tables_1_2) (i := 197) rfl)) rfl
theorem wd438 : (Jvm.Cond.static ({ cls := "FormulaShapes", name := "needOneOf", desc := "(II)V" } : Jvm.MethodName)) ∈ lw_big := lw_bg (lw_m2 (List.mem_of_getElem? (l := tables_1_2) (i := 198) rfl)) rfl
theorem wd439 : (Jvm.Cond.code ({ cls := "FormulaShapes", name := "needOneOf", desc := "(II)V" } : Jvm.MethodName) prog_1_method_23_code (2 : Nat) (Option.none : Option Jvm.ClassFile.FieldType)) ∈ lw_big := lw_bg (lw_m2 (List.mem_of_getElem? (l := tables_1_2) (i := 199) rfl)) rfl
theorem wd440 : (Jvm.Cond.stringRef "FormulaShapes" (210 : Nat) "one must be there, above or below") ∈ tables_1 := lw_m2 (List.mem_of_getElem? (l := tables_1_2) (i := 200) rfl)
theorem wd441 : (Jvm.Cond.methodLink "FormulaShapes" (158 : Nat) ({ cls := "FormulaShapes", name := "downAlone", desc := "(III)I" } : Jvm.MethodName)) ∈ lw_big := lw_bg (lw_m2 (List.mem_of_getElem? (l := tables_1_2) (i := 201) rfl)) rfl
theorem wd442 : (Jvm.Cond.privateMethod ({ cls := "FormulaShapes", name := "downAlone", desc := "(III)I" } : Jvm.MethodName)) ∈ tables_1 := lw_m2 (List.mem_of_getElem? (l := tables_1_2) (i := 202) rfl)
theorem wd443 : (Jvm.Cond.instanceMethod ({ cls := "FormulaShapes", name := "downAlone", desc := "(III)I" } : Jvm.MethodName)) ∈ lw_big := lw_bg (lw_m2 (List.mem_of_getElem? (l := tables_1_2) (i := 203) rfl)) rfl
theorem wd444 : (Jvm.Cond.code ({ cls := "FormulaShapes", name := "downAlone", desc := "(III)I" } : Jvm.MethodName) prog_1_method_46_code (5 : Nat) (Option.some Jvm.ClassFile.FieldType.int)) ∈ lw_big := lw_bg (lw_m2 (List.mem_of_getElem? (l := tables_1_2) (i := 204) rfl)) rfl
theorem wd445 : (Jvm.Cond.methodLink "FormulaShapes" (260 : Nat) ({ cls := "FormulaShapes", name := "fourFifths", desc := "(I)I" } : Jvm.MethodName)) ∈ lw_big := lw_bg (lw_m2 (List.mem_of_getElem? (l := tables_1_2) (i := 205) rfl)) rfl
theorem wd446 : (Jvm.Cond.privateMethod ({ cls := "FormulaShapes", name := "fourFifths", desc := "(I)I" } : Jvm.MethodName)) ∈ tables_1 := lw_m2 (List.mem_of_getElem? (l := tables_1_2) (i := 206) rfl)
theorem wd447 : (Jvm.Cond.instanceMethod ({ cls := "FormulaShapes", name := "fourFifths", desc := "(I)I" } : Jvm.MethodName)) ∈ lw_big := lw_bg (lw_m2 (List.mem_of_getElem? (l := tables_1_2) (i := 207) rfl)) rfl
theorem wd448 : (Jvm.Cond.code ({ cls := "FormulaShapes", name := "fourFifths", desc := "(I)I" } : Jvm.MethodName) prog_1_method_47_code (2 : Nat) (Option.some Jvm.ClassFile.FieldType.int)) ∈ lw_big := lw_bg (lw_m2 (List.mem_of_getElem? (l := tables_1_2) (i := 208) rfl)) rfl
theorem wd449 : (Jvm.Cond.methodLink "FormulaShapes" (165 : Nat) ({ cls := "FormulaShapes", name := "enclosing", desc := "(I[I)LFormulaShapes$Box;" } : Jvm.MethodName)) ∈ lw_big := lw_bg (lw_m2 (List.mem_of_getElem? (l := tables_1_2) (i := 209) rfl)) rfl
theorem wd450 : (Jvm.Cond.privateMethod ({ cls := "FormulaShapes", name := "enclosing", desc := "(I[I)LFormulaShapes$Box;" } : Jvm.MethodName)) ∈ tables_1 := lw_m2 (List.mem_of_getElem? (l := tables_1_2) (i := 210) rfl)
theorem wd451 : (Jvm.Cond.instanceMethod ({ cls := "FormulaShapes", name := "enclosing", desc := "(I[I)LFormulaShapes$Box;" } : Jvm.MethodName)) ∈ lw_big := lw_bg (lw_m2 (List.mem_of_getElem? (l := tables_1_2) (i := 211) rfl)) rfl
theorem wd452 : (Jvm.Cond.code ({ cls := "FormulaShapes", name := "enclosing", desc := "(I[I)LFormulaShapes$Box;" } : Jvm.MethodName) prog_1_method_34_code (10 : Nat) (Option.some (Jvm.ClassFile.FieldType.object "FormulaShapes$Box"))) ∈ lw_big := lw_bg (lw_m2 (List.mem_of_getElem? (l := tables_1_2) (i := 212) rfl)) rfl
theorem wd453 : (Jvm.Cond.methodLink "FormulaShapes" (169 : Nat) ({ cls := "FormulaShapes", name := "upShift", desc := "(IZII)I" } : Jvm.MethodName)) ∈ lw_big := lw_bg (lw_m2 (List.mem_of_getElem? (l := tables_1_2) (i := 213) rfl)) rfl
theorem wd454 : (Jvm.Cond.privateMethod ({ cls := "FormulaShapes", name := "upShift", desc := "(IZII)I" } : Jvm.MethodName)) ∈ tables_1 := lw_m2 (List.mem_of_getElem? (l := tables_1_2) (i := 214) rfl)
theorem wd455 : (Jvm.Cond.instanceMethod ({ cls := "FormulaShapes", name := "upShift", desc := "(IZII)I" } : Jvm.MethodName)) ∈ lw_big := lw_bg (lw_m2 (List.mem_of_getElem? (l := tables_1_2) (i := 215) rfl)) rfl
theorem wd456 : (Jvm.Cond.code ({ cls := "FormulaShapes", name := "upShift", desc := "(IZII)I" } : Jvm.MethodName) prog_1_method_45_code (7 : Nat) (Option.some Jvm.ClassFile.FieldType.int)) ∈ lw_big := lw_bg (lw_m2 (List.mem_of_getElem? (l := tables_1_2) (i := 216) rfl)) rfl
theorem wd457 : (Jvm.Cond.methodLink "FormulaShapes" (173 : Nat) ({ cls := "FormulaShapes", name := "signsOnBothSides", desc := "(IIIIII)LFormulaShapes$Box;" } : Jvm.MethodName)) ∈ lw_big := lw_bg (lw_m2 (List.mem_of_getElem? (l := tables_1_2) (i := 217) rfl)) rfl
theorem wd458 : (Jvm.Cond.privateMethod ({ cls := "FormulaShapes", name := "signsOnBothSides", desc := "(IIIIII)LFormulaShapes$Box;" } : Jvm.MethodName)) ∈ tables_1 := lw_m2 (List.mem_of_getElem? (l := tables_1_2) (i := 218) rfl)
theorem wd459 : (Jvm.Cond.instanceMethod ({ cls := "FormulaShapes", name := "signsOnBothSides", desc := "(IIIIII)LFormulaShapes$Box;" } : Jvm.MethodName)) ∈ lw_big := lw_bg (lw_m2 (List.mem_of_getElem? (l := tables_1_2) (i := 219) rfl)) rfl
theorem wd460 : (Jvm.Cond.code ({ cls := "FormulaShapes", name := "signsOnBothSides", desc := "(IIIIII)LFormulaShapes$Box;" } : Jvm.MethodName) prog_1_method_48_code (11 : Nat) (Option.some (Jvm.ClassFile.FieldType.object "FormulaShapes$Box"))) ∈ lw_big := lw_bg (lw_m2 (List.mem_of_getElem? (l := tables_1_2) (i := 220) rfl)) rfl
theorem wd461 : (Jvm.Cond.methodLink "FormulaShapesLaw" (109 : Nat) ({ cls := "FormulaShapesLaw", name := "limits", desc := "(LFormulaShapes;IIII[J)I" } : Jvm.MethodName)) ∈ lw_big := lw_bg (lw_m2 (List.mem_of_getElem? (l := tables_1_2) (i := 221) rfl)) rfl
theorem wd462 : (Jvm.Cond.static ({ cls := "FormulaShapesLaw", name := "limits", desc := "(LFormulaShapes;IIII[J)I" } : Jvm.MethodName)) ∈ lw_big := lw_bg (lw_m2 (List.mem_of_getElem? (l := tables_1_2) (i := 222) rfl)) rfl
theorem wd463 : (Jvm.Cond.codeWith ({ cls := "FormulaShapesLaw", name := "limits", desc := "(LFormulaShapes;IIII[J)I" } : Jvm.MethodName) method_12_code (7 : Nat) (Option.some Jvm.ClassFile.FieldType.int) [((0 : Nat), (14 : Nat), (17 : Nat), (13 : Nat)), ((0 : Nat), (14 : Nat), (21 : Nat), (15 : Nat)), ((0 : Nat), (14 : Nat), (25 : Nat), (24 : Nat))]) ∈ lw_big := lw_bg (lw_m2 (List.mem_of_getElem? (l := tables_1_2) (i := 223) rfl)) rfl
theorem wd464 : (Jvm.Cond.methodLink "FormulaShapesLaw" (49 : Nat) ({ cls := "FormulaShapes", name := "limits", desc := "(IIII)I" } : Jvm.MethodName)) ∈ lw_big := lw_bg (lw_m2 (List.mem_of_getElem? (l := tables_1_2) (i := 224) rfl)) rfl
theorem wd465 : (Jvm.Cond.instanceMethod ({ cls := "FormulaShapes", name := "limits", desc := "(IIII)I" } : Jvm.MethodName)) ∈ lw_big := lw_bg (lw_m2 (List.mem_of_getElem? (l := tables_1_2) (i := 225) rfl)) rfl
theorem wd466 : (Jvm.Cond.selects "FormulaShapes" ({ cls := "FormulaShapes", name := "limits", desc := "(IIII)I" } : Jvm.MethodName) ({ cls := "FormulaShapes", name := "limits", desc := "(IIII)I" } : Jvm.MethodName)) ∈ lw_big := lw_bg (lw_m2 (List.mem_of_getElem? (l := tables_1_2) (i := 226) rfl)) rfl
theorem wd467 : (Jvm.Cond.code ({ cls := "FormulaShapes", name := "limits", desc := "(IIII)I" } : Jvm.MethodName) prog_1_method_11_code (5 : Nat) (Option.some Jvm.ClassFile.FieldType.int)) ∈ lw_big := lw_bg (lw_m2 (List.mem_of_getElem? (l := tables_1_2) (i := 227) rfl)) rfl
theorem wd468 : (Jvm.Cond.methodLink "FormulaShapes" (177 : Nat) ({ cls := "FormulaShapes", name := "limitsShape", desc := "(IIII)LFormulaShapes$Box;" } : Jvm.MethodName)) ∈ lw_big := lw_bg (lw_m2 (List.mem_of_getElem? (l := tables_1_2) (i := 228) rfl)) rfl
theorem wd469 : (Jvm.Cond.privateMethod ({ cls := "FormulaShapes", name := "limitsShape", desc := "(IIII)LFormulaShapes$Box;" } : Jvm.MethodName)) ∈ tables_1 := lw_m2 (List.mem_of_getElem? (l := tables_1_2) (i := 229) rfl)
theorem wd470 : (Jvm.Cond.instanceMethod ({ cls := "FormulaShapes", name := "limitsShape", desc := "(IIII)LFormulaShapes$Box;" } : Jvm.MethodName)) ∈ lw_big := lw_bg (lw_m2 (List.mem_of_getElem? (l := tables_1_2) (i := 230) rfl)) rfl
theorem wd471 : (Jvm.Cond.code ({ cls := "FormulaShapes", name := "limitsShape", desc := "(IIII)LFormulaShapes$Box;" } : Jvm.MethodName) prog_1_method_49_code (13 : Nat) (Option.some (Jvm.ClassFile.FieldType.object "FormulaShapes$Box"))) ∈ lw_big := lw_bg (lw_m2 (List.mem_of_getElem? (l := tables_1_2) (i := 231) rfl)) rfl
theorem wd472 : (Jvm.Cond.methodLink "FormulaShapesLaw" (112 : Nat) ({ cls := "FormulaShapesLaw", name := "brackets", desc := "(LFormulaShapes;IIII[J)I" } : Jvm.MethodName)) ∈ lw_big := lw_bg (lw_m2 (List.mem_of_getElem? (l := tables_1_2) (i := 232) rfl)) rfl
theorem wd473 : (Jvm.Cond.static ({ cls := "FormulaShapesLaw", name := "brackets", desc := "(LFormulaShapes;IIII[J)I" } : Jvm.MethodName)) ∈ lw_big := lw_bg (lw_m2 (List.mem_of_getElem? (l := tables_1_2) (i := 233) rfl)) rfl
theorem wd474 : (Jvm.Cond.codeWith ({ cls := "FormulaShapesLaw", name := "brackets", desc := "(LFormulaShapes;IIII[J)I" } : Jvm.MethodName) method_13_code (7 : Nat) (Option.some Jvm.ClassFile.FieldType.int) [((0 : Nat), (14 : Nat), (17 : Nat), (13 : Nat)), ((0 : Nat), (14 : Nat), (21 : Nat), (15 : Nat)), ((0 : Nat), (14 : Nat), (25 : Nat), (36 : Nat)), ((0 : Nat), (14 : Nat), (29 : Nat), (24 : Nat))]) ∈ lw_big := lw_bg (lw_m2 (List.mem_of_getElem? (l := tables_1_2) (i := 234) rfl)) rfl
theorem wd475 : (Jvm.Cond.methodLink "FormulaShapesLaw" (52 : Nat) ({ cls := "FormulaShapes", name := "brackets", desc := "(IIII)I" } : Jvm.MethodName)) ∈ lw_big := lw_bg (lw_m2 (List.mem_of_getElem? (l := tables_1_2) (i := 235) rfl)) rfl
theorem wd476 : (Jvm.Cond.instanceMethod ({ cls := "FormulaShapes", name := "brackets", desc := "(IIII)I" } : Jvm.MethodName)) ∈ lw_big := lw_bg (lw_m2 (List.mem_of_getElem? (l := tables_1_2) (i := 236) rfl)) rfl
theorem wd477 : (Jvm.Cond.selects "FormulaShapes" ({ cls := "FormulaShapes", name := "brackets", desc := "(IIII)I" } : Jvm.MethodName) ({ cls := "FormulaShapes", name := "brackets", desc := "(IIII)I" } : Jvm.MethodName)) ∈ lw_big := lw_bg (lw_m2 (List.mem_of_getElem? (l := tables_1_2) (i := 237) rfl)) rfl
theorem wd478 : (Jvm.Cond.code ({ cls := "FormulaShapes", name := "brackets", desc := "(IIII)I" } : Jvm.MethodName) prog_1_method_12_code (14 : Nat) (Option.some Jvm.ClassFile.FieldType.int)) ∈ lw_big := lw_bg (lw_m2 (List.mem_of_getElem? (l := tables_1_2) (i := 238) rfl)) rfl
theorem wd479 : (Jvm.Cond.methodLink "FormulaShapes" (180 : Nat) ({ cls := "FormulaShapes", name := "bracketsLeast", desc := "(II)I" } : Jvm.MethodName)) ∈ lw_big := lw_bg (lw_m2 (List.mem_of_getElem? (l := tables_1_2) (i := 239) rfl)) rfl
theorem wd480 : (Jvm.Cond.privateMethod ({ cls := "FormulaShapes", name := "bracketsLeast", desc := "(II)I" } : Jvm.MethodName)) ∈ tables_1 := lw_m3 (List.mem_of_getElem? (l := tables_1_3) (i := 0) rfl)
theorem wd481 : (Jvm.Cond.instanceMethod ({ cls := "FormulaShapes", name := "bracketsLeast", desc := "(II)I" } : Jvm.MethodName)) ∈ lw_big := lw_bg (lw_m3 (List.mem_of_getElem? (l := tables_1_3) (i := 1) rfl)) rfl
theorem wd482 : (Jvm.Cond.code ({ cls := "FormulaShapes", name := "bracketsLeast", desc := "(II)I" } : Jvm.MethodName) prog_1_method_50_code (5 : Nat) (Option.some Jvm.ClassFile.FieldType.int)) ∈ lw_big := lw_bg (lw_m3 (List.mem_of_getElem? (l := tables_1_3) (i := 2) rfl)) rfl
theorem wd483 : (Jvm.Cond.methodLink "FormulaShapes" (183 : Nat) ({ cls := "FormulaShapes", name := "onAxis", desc := "(II)I" } : Jvm.MethodName)) ∈ lw_big := lw_bg (lw_m3 (List.mem_of_getElem? (l := tables_1_3) (i := 3) rfl)) rfl
theorem wd484 : (Jvm.Cond.privateMethod ({ cls := "FormulaShapes", name := "onAxis", desc := "(II)I" } : Jvm.MethodName)) ∈ tables_1 := lw_m3 (List.mem_of_getElem? (l := tables_1_3) (i := 4) rfl)
theorem wd485 : (Jvm.Cond.instanceMethod ({ cls := "FormulaShapes", name := "onAxis", desc := "(II)I" } : Jvm.MethodName)) ∈ lw_big := lw_bg (lw_m3 (List.mem_of_getElem? (l := tables_1_3) (i := 5) rfl)) rfl
theorem wd486 : (Jvm.Cond.code ({ cls := "FormulaShapes", name := "onAxis", desc := "(II)I" } : Jvm.MethodName) prog_1_method_33_code (3 : Nat) (Option.some Jvm.ClassFile.FieldType.int)) ∈ lw_big := lw_bg (lw_m3 (List.mem_of_getElem? (l := tables_1_3) (i := 6) rfl)) rfl
theorem wd487 : (Jvm.Cond.methodLink "FormulaShapesLaw" (115 : Nat) ({ cls := "FormulaShapesLaw", name := "row", desc := "(LFormulaShapes;III[J)I" } : Jvm.MethodName)) ∈ lw_big := lw_bg (lw_m3 (List.mem_of_getElem? (l := tables_1_3) (i := 7) rfl)) rfl
theorem wd488 : (Jvm.Cond.static ({ cls := "FormulaShapesLaw", name := "row", desc := "(LFormulaShapes;III[J)I" } : Jvm.MethodName)) ∈ lw_big := lw_bg (lw_m3 (List.mem_of_getElem? (l := tables_1_3) (i := 8) rfl)) rfl
theorem wd489 : (Jvm.Cond.codeWith ({ cls := "FormulaShapesLaw", name := "row", desc := "(LFormulaShapes;III[J)I" } : Jvm.MethodName) method_14_code (6 : Nat) (Option.some Jvm.ClassFile.FieldType.int) [((0 : Nat), (12 : Nat), (15 : Nat), (13 : Nat)), ((0 : Nat), (12 : Nat), (19 : Nat), (15 : Nat)), ((0 : Nat), (12 : Nat), (23 : Nat), (24 : Nat))]) ∈ lw_big := lw_bg (lw_m3 (List.mem_of_getElem? (l := tables_1_3) (i := 9) rfl)) rfl
theorem wd490 : (Jvm.Cond.methodLink "FormulaShapesLaw" (55 : Nat) ({ cls := "FormulaShapes", name := "row", desc := "(III)I" } : Jvm.MethodName)) ∈ lw_big := lw_bg (lw_m3 (List.mem_of_getElem? (l := tables_1_3) (i := 10) rfl)) rfl
theorem wd491 : (Jvm.Cond.instanceMethod ({ cls := "FormulaShapes", name := "row", desc := "(III)I" } : Jvm.MethodName)) ∈ lw_big := lw_bg (lw_m3 (List.mem_of_getElem? (l := tables_1_3) (i := 11) rfl)) rfl
theorem wd492 : (Jvm.Cond.selects "FormulaShapes" ({ cls := "FormulaShapes", name := "row", desc := "(III)I" } : Jvm.MethodName) ({ cls := "FormulaShapes", name := "row", desc := "(III)I" } : Jvm.MethodName)) ∈ lw_big := lw_bg (lw_m3 (List.mem_of_getElem? (l := tables_1_3) (i := 12) rfl)) rfl
theorem wd493 : (Jvm.Cond.code ({ cls := "FormulaShapes", name := "row", desc := "(III)I" } : Jvm.MethodName) prog_1_method_13_code (5 : Nat) (Option.some Jvm.ClassFile.FieldType.int)) ∈ lw_big := lw_bg (lw_m3 (List.mem_of_getElem? (l := tables_1_3) (i := 13) rfl)) rfl
theorem wd494 : (Jvm.Cond.methodLink "FormulaShapesLaw" (118 : Nat) ({ cls := "FormulaShapesLaw", name := "centre", desc := "(LFormulaShapes;II[J)I" } : Jvm.MethodName)) ∈ lw_big := lw_bg (lw_m3 (List.mem_of_getElem? (l := tables_1_3) (i := 14) rfl)) rfl
theorem wd495 : (Jvm.Cond.static ({ cls := "FormulaShapesLaw", name := "centre", desc := "(LFormulaShapes;II[J)I" } : Jvm.MethodName)) ∈ lw_big := lw_bg (lw_m3 (List.mem_of_getElem? (l := tables_1_3) (i := 15) rfl)) rfl
theorem wd496 : (Jvm.Cond.codeWith ({ cls := "FormulaShapesLaw", name := "centre", desc := "(LFormulaShapes;II[J)I" } : Jvm.MethodName) method_15_code (5 : Nat) (Option.some Jvm.ClassFile.FieldType.int) [((0 : Nat), (10 : Nat), (13 : Nat), (13 : Nat)), ((0 : Nat), (10 : Nat), (17 : Nat), (15 : Nat)), ((0 : Nat), (10 : Nat), (21 : Nat), (24 : Nat))]) ∈ lw_big := lw_bg (lw_m3 (List.mem_of_getElem? (l := tables_1_3) (i := 16) rfl)) rfl
theorem wd497 : (Jvm.Cond.methodLink "FormulaShapesLaw" (58 : Nat) ({ cls := "FormulaShapes", name := "centre", desc := "(II)I" } : Jvm.MethodName)) ∈ lw_big := lw_bg (lw_m3 (List.mem_of_getElem? (l := tables_1_3) (i := 17) rfl)) rfl
theorem wd498 : (Jvm.Cond.instanceMethod ({ cls := "FormulaShapes", name := "centre", desc := "(II)I" } : Jvm.MethodName)) ∈ lw_big := lw_bg (lw_m3 (List.mem_of_getElem? (l := tables_1_3) (i := 18) rfl)) rfl
theorem wd499 : (Jvm.Cond.selects "FormulaShapes" ({ cls := "FormulaShapes", name := "centre", desc := "(II)I" } : Jvm.MethodName) ({ cls := "FormulaShapes", name := "centre", desc := "(II)I" } : Jvm.MethodName)) ∈ lw_big := lw_bg (lw_m3 (List.mem_of_getElem? (l := tables_1_3) (i := 19) rfl)) rfl
theorem wd500 : (Jvm.Cond.code ({ cls := "FormulaShapes", name := "centre", desc := "(II)I" } : Jvm.MethodName) prog_1_method_14_code (3 : Nat) (Option.some Jvm.ClassFile.FieldType.int)) ∈ lw_big := lw_bg (lw_m3 (List.mem_of_getElem? (l := tables_1_3) (i := 20) rfl)) rfl
theorem wd501 : (Jvm.Cond.methodLink "FormulaShapesLaw" (121 : Nat) ({ cls := "FormulaShapesLaw", name := "told", desc := "(LFormulaShapes;II[J)I" } : Jvm.MethodName)) ∈ lw_big := lw_bg (lw_m3 (List.mem_of_getElem? (l := tables_1_3) (i := 21) rfl)) rfl
theorem wd502 : (Jvm.Cond.static ({ cls := "FormulaShapesLaw", name := "told", desc := "(LFormulaShapes;II[J)I" } : Jvm.MethodName)) ∈ lw_big := lw_bg (lw_m3 (List.mem_of_getElem? (l := tables_1_3) (i := 22) rfl)) rfl
theorem wd503 : (Jvm.Cond.codeWith ({ cls := "FormulaShapesLaw", name := "told", desc := "(LFormulaShapes;II[J)I" } : Jvm.MethodName) method_16_code (5 : Nat) (Option.some Jvm.ClassFile.FieldType.int) [((0 : Nat), (10 : Nat), (13 : Nat), (13 : Nat))]) ∈ lw_big := lw_bg (lw_m3 (List.mem_of_getElem? (l := tables_1_3) (i := 23) rfl)) rfl
theorem wd504 : (Jvm.Cond.methodLink "FormulaShapesLaw" (61 : Nat) ({ cls := "FormulaShapes", name := "told", desc := "(II)I" } : Jvm.MethodName)) ∈ lw_big := lw_bg (lw_m3 (List.mem_of_getElem? (l := tables_1_3) (i := 24) rfl)) rfl
theorem wd505 : (Jvm.Cond.instanceMethod ({ cls := "FormulaShapes", name := "told", desc := "(II)I" } : Jvm.MethodName)) ∈ lw_big := lw_bg (lw_m3 (List.mem_of_getElem? (l := tables_1_3) (i := 25) rfl)) rfl
theorem wd506 : (Jvm.Cond.selects "FormulaShapes" ({ cls := "FormulaShapes", name := "told", desc := "(II)I" } : Jvm.MethodName) ({ cls := "FormulaShapes", name := "told", desc := "(II)I" } : Jvm.MethodName)) ∈ lw_big := lw_bg (lw_m3 (List.mem_of_getElem? (l := tables_1_3) (i := 26) rfl)) rfl
theorem wd507 : (Jvm.Cond.code ({ cls := "FormulaShapes", name := "told", desc := "(II)I" } : Jvm.MethodName) prog_1_method_15_code (3 : Nat) (Option.some Jvm.ClassFile.FieldType.int)) ∈ lw_big := lw_bg (lw_m3 (List.mem_of_getElem? (l := tables_1_3) (i := 27) rfl)) rfl
theorem wd508 : (Jvm.Cond.stringRef "FormulaShapes" (189 : Nat) "what is 0 to 3") ∈ tables_1 := lw_m3 (List.mem_of_getElem? (l := tables_1_3) (i := 28) rfl)
theorem wd509 : (Jvm.Cond.methodLink "FormulaShapesLaw" (124 : Nat) ({ cls := "FormulaShapesLaw", name := "part", desc := "(LFormulaShapes;III[J)I" } : Jvm.MethodName)) ∈ lw_big := lw_bg (lw_m3 (List.mem_of_getElem? (l := tables_1_3) (i := 29) rfl)) rfl
theorem wd510 : (Jvm.Cond.static ({ cls := "FormulaShapesLaw", name := "part", desc := "(LFormulaShapes;III[J)I" } : Jvm.MethodName)) ∈ lw_big := lw_bg (lw_m3 (List.mem_of_getElem? (l := tables_1_3) (i := 30) rfl)) rfl
theorem wd511 : (Jvm.Cond.codeWith ({ cls := "FormulaShapesLaw", name := "part", desc := "(LFormulaShapes;III[J)I" } : Jvm.MethodName) method_17_code (6 : Nat) (Option.some Jvm.ClassFile.FieldType.int) [((0 : Nat), (12 : Nat), (15 : Nat), (13 : Nat))]) ∈ lw_big := lw_bg (lw_m3 (List.mem_of_getElem? (l := tables_1_3) (i := 31) rfl)) rfl
theorem wd512 : (Jvm.Cond.methodLink "FormulaShapesLaw" (64 : Nat) ({ cls := "FormulaShapes", name := "part", desc := "(III)I" } : Jvm.MethodName)) ∈ lw_big := lw_bg (lw_m3 (List.mem_of_getElem? (l := tables_1_3) (i := 32) rfl)) rfl
theorem wd513 : (Jvm.Cond.instanceMethod ({ cls := "FormulaShapes", name := "part", desc := "(III)I" } : Jvm.MethodName)) ∈ lw_big := lw_bg (lw_m3 (List.mem_of_getElem? (l := tables_1_3) (i := 33) rfl)) rfl
theorem wd514 : (Jvm.Cond.selects "FormulaShapes" ({ cls := "FormulaShapes", name := "part", desc := "(III)I" } : Jvm.MethodName) ({ cls := "FormulaShapes", name := "part", desc := "(III)I" } : Jvm.MethodName)) ∈ lw_big := lw_bg (lw_m3 (List.mem_of_getElem? (l := tables_1_3) (i := 34) rfl)) rfl
theorem wd515 : (Jvm.Cond.code ({ cls := "FormulaShapes", name := "part", desc := "(III)I" } : Jvm.MethodName) prog_1_method_16_code (6 : Nat) (Option.some Jvm.ClassFile.FieldType.int)) ∈ lw_big := lw_bg (lw_m3 (List.mem_of_getElem? (l := tables_1_3) (i := 35) rfl)) rfl
theorem wd516 : (Jvm.Cond.stringRef "FormulaShapes" (191 : Nat) "no such part") ∈ tables_1 := lw_m3 (List.mem_of_getElem? (l := tables_1_3) (i := 36) rfl)
theorem wd517 : (Jvm.Cond.stringRef "FormulaShapes" (193 : Nat) "what is 0 to 5") ∈ tables_1 := lw_m3 (List.mem_of_getElem? (l := tables_1_3) (i := 37) rfl)
theorem wd518 : (Jvm.Cond.classLink "FormulaShapesLaw" (68 : Nat) "FormulaShapesModel") ∈ lw_big := lw_bg (lw_m3 (List.mem_of_getElem? (l := tables_1_3) (i := 38) rfl)) rfl
theorem wd519 : (Jvm.Cond.instantiable "FormulaShapesModel" (21 : Nat)) ∈ lw_big := lw_bg (lw_m3 (List.mem_of_getElem? (l := tables_1_3) (i := 39) rfl)) rfl
theorem wd520 : (Jvm.Cond.methodLink "FormulaShapesLaw" (70 : Nat) ({ cls := "FormulaShapesModel", name := "<init>", desc := "()V" } : Jvm.MethodName)) ∈ lw_big := lw_bg (lw_m3 (List.mem_of_getElem? (l := tables_1_3) (i := 40) rfl)) rfl
theorem wd521 : (Jvm.Cond.instanceMethod ({ cls := "FormulaShapesModel", name := "<init>", desc := "()V" } : Jvm.MethodName)) ∈ lw_big := lw_bg (lw_m3 (List.mem_of_getElem? (l := tables_1_3) (i := 41) rfl)) rfl
theorem wd522 : (Jvm.Cond.code ({ cls := "FormulaShapesModel", name := "<init>", desc := "()V" } : Jvm.MethodName) prog_6_method_1_code (1 : Nat) (Option.none : Option Jvm.ClassFile.FieldType)) ∈ lw_big := lw_bg (lw_m3 (List.mem_of_getElem? (l := tables_1_3) (i := 42) rfl)) rfl
theorem wd523 : (Jvm.Cond.methodLink "FormulaShapesModel" (1 : Nat) ({ cls := "java/lang/Object", name := "<init>", desc := "()V" } : Jvm.MethodName)) ∈ lw_big := lw_bg (lw_m3 (List.mem_of_getElem? (l := tables_1_3) (i := 43) rfl)) rfl
theorem wd524 : (Jvm.Cond.fieldLink "FormulaShapesModel" (60 : Nat) "FormulaShapesModel" "thrown" "I") ∈ lw_big := lw_bg (lw_m3 (List.mem_of_getElem? (l := tables_1_3) (i := 44) rfl)) rfl
theorem wd525 : (Jvm.Cond.fieldLink "FormulaShapesModel" (7 : Nat) "FormulaShapesModel" "parameters" "[I") ∈ lw_big := lw_bg (lw_m3 (List.mem_of_getElem? (l := tables_1_3) (i := 45) rfl)) rfl
theorem wd526 : (Jvm.Cond.fieldLink "FormulaShapesModel" (76 : Nat) "FormulaShapesModel" "space" "I") ∈ lw_big := lw_bg (lw_m3 (List.mem_of_getElem? (l := tables_1_3) (i := 46) rfl)) rfl
theorem wd527 : (Jvm.Cond.fieldLink "FormulaShapesModel" (79 : Nat) "FormulaShapesModel" "less" "I") ∈ lw_big := lw_bg (lw_m3 (List.mem_of_getElem? (l := tables_1_3) (i := 47) rfl)) rfl
theorem wd528 : (Jvm.Cond.fieldLink "FormulaShapesModel" (56 : Nat) "FormulaShapesModel" "boxes" "I") ∈ lw_big := lw_bg (lw_m3 (List.mem_of_getElem? (l := tables_1_3) (i := 48) rfl)) rfl
theorem wd529 : (Jvm.Cond.fieldLink "FormulaShapesModel" (13 : Nat) "FormulaShapesModel" "widths" "[I") ∈ lw_big := lw_bg (lw_m3 (List.mem_of_getElem? (l := tables_1_3) (i := 49) rfl)) rfl
theorem wd530 : (Jvm.Cond.fieldLink "FormulaShapesModel" (16 : Nat) "FormulaShapesModel" "heights" "[I") ∈ lw_big := lw_bg (lw_m3 (List.mem_of_getElem? (l := tables_1_3) (i := 50) rfl)) rfl
theorem wd531 : (Jvm.Cond.fieldLink "FormulaShapesModel" (19 : Nat) "FormulaShapesModel" "depths" "[I") ∈ lw_big := lw_bg (lw_m3 (List.mem_of_getElem? (l := tables_1_3) (i := 51) rfl)) rfl
theorem wd532 : (Jvm.Cond.fieldLink "FormulaShapesModel" (22 : Nat) "FormulaShapesModel" "begins" "[I") ∈ lw_big := lw_bg (lw_m3 (List.mem_of_getElem? (l := tables_1_3) (i := 52) rfl)) rfl
theorem wd533 : (Jvm.Cond.fieldLink "FormulaShapesModel" (25 : Nat) "FormulaShapesModel" "many" "[I") ∈ lw_big := lw_bg (lw_m3 (List.mem_of_getElem? (l := tables_1_3) (i := 53) rfl)) rfl
theorem wd534 : (Jvm.Cond.fieldLink "FormulaShapesModel" (28 : Nat) "FormulaShapesModel" "ruleWidth" "[I") ∈ lw_big := lw_bg (lw_m3 (List.mem_of_getElem? (l := tables_1_3) (i := 54) rfl)) rfl
theorem wd535 : (Jvm.Cond.fieldLink "FormulaShapesModel" (31 : Nat) "FormulaShapesModel" "ruleHeight" "[I") ∈ lw_big := lw_bg (lw_m3 (List.mem_of_getElem? (l := tables_1_3) (i := 55) rfl)) rfl
theorem wd536 : (Jvm.Cond.fieldLink "FormulaShapesModel" (82 : Nat) "FormulaShapesModel" "parts" "I") ∈ lw_big := lw_bg (lw_m3 (List.mem_of_getElem? (l := tables_1_3) (i := 56) rfl)) rfl
theorem wd537 : (Jvm.Cond.fieldLink "FormulaShapesModel" (34 : Nat) "FormulaShapesModel" "partBox" "[I") ∈ lw_big := lw_bg (lw_m3 (List.mem_of_getElem? (l := tables_1_3) (i := 57) rfl)) rfl
theorem wd538 : (Jvm.Cond.fieldLink "FormulaShapesModel" (37 : Nat) "FormulaShapesModel" "partX" "[I") ∈ lw_big := lw_bg (lw_m3 (List.mem_of_getElem? (l := tables_1_3) (i := 58) rfl)) rfl
theorem wd539 : (Jvm.Cond.fieldLink "FormulaShapesModel" (40 : Nat) "FormulaShapesModel" "partY" "[I") ∈ lw_big := lw_bg (lw_m3 (List.mem_of_getElem? (l := tables_1_3) (i := 59) rfl)) rfl
theorem wd540 : (Jvm.Cond.fieldLink "FormulaShapesModel" (43 : Nat) "FormulaShapesModel" "signs" "[I") ∈ lw_big := lw_bg (lw_m3 (List.mem_of_getElem? (l := tables_1_3) (i := 60) rfl)) rfl
theorem wd541 : (Jvm.Cond.fieldLink "FormulaShapesModel" (46 : Nat) "FormulaShapesModel" "signBox" "[I") ∈ lw_big := lw_bg (lw_m3 (List.mem_of_getElem? (l := tables_1_3) (i := 61) rfl)) rfl
theorem wd542 : (Jvm.Cond.fieldLink "FormulaShapesModel" (49 : Nat) "FormulaShapesModel" "hasPieces" "[Z") ∈ lw_big := lw_bg (lw_m3 (List.mem_of_getElem? (l := tables_1_3) (i := 62) rfl)) rfl
theorem wd543 : (Jvm.Cond.fieldLink "FormulaShapesModel" (53 : Nat) "FormulaShapesModel" "piece" "[I") ∈ lw_big := lw_bg (lw_m3 (List.mem_of_getElem? (l := tables_1_3) (i := 63) rfl)) rfl
theorem wd544 : (Jvm.Cond.fieldLink "FormulaShapesModel" (71 : Nat) "FormulaShapesModel" "size" "I") ∈ lw_big := lw_bg (lw_m3 (List.mem_of_getElem? (l := tables_1_3) (i := 64) rfl)) rfl
theorem wd545 : (Jvm.Cond.lays "FormulaShapesModel" "FormulaShapesModel" "thrown" "I") ∈ lw_big := lw_bg (lw_m3 (List.mem_of_getElem? (l := tables_1_3) (i := 65) rfl)) rfl
theorem wd546 : (Jvm.Cond.soleField "FormulaShapesModel" "thrown") ∈ lw_big := lw_bg (lw_m3 (List.mem_of_getElem? (l := tables_1_3) (i := 66) rfl)) rfl
theorem wd547 : (Jvm.Cond.laysFinal "FormulaShapesModel" "FormulaShapesModel" "parameters" "[I") ∈ lw_big := lw_bg (lw_m3 (List.mem_of_getElem? (l := tables_1_3) (i := 67) rfl)) rfl
theorem wd548 : (Jvm.Cond.soleField "FormulaShapesModel" "parameters") ∈ lw_big := lw_bg (lw_m3 (List.mem_of_getElem? (l := tables_1_3) (i := 68) rfl)) rfl
theorem wd549 : (Jvm.Cond.lays "FormulaShapesModel" "FormulaShapesModel" "space" "I") ∈ lw_big := lw_bg (lw_m3 (List.mem_of_getElem? (l := tables_1_3) (i := 69) rfl)) rfl
theorem wd550 : (Jvm.Cond.soleField "FormulaShapesModel" "space") ∈ lw_big := lw_bg (lw_m3 (List.mem_of_getElem? (l := tables_1_3) (i := 70) rfl)) rfl
theorem wd551 : (Jvm.Cond.lays "FormulaShapesModel" "FormulaShapesModel" "less" "I") ∈ lw_big := lw_bg (lw_m3 (List.mem_of_getElem? (l := tables_1_3) (i := 71) rfl)) rfl
theorem wd552 : (Jvm.Cond.soleField "FormulaShapesModel" "less") ∈ lw_big := lw_bg (lw_m3 (List.mem_of_getElem? (l := tables_1_3) (i := 72) rfl)) rfl
theorem wd553 : (Jvm.Cond.lays "FormulaShapesModel" "FormulaShapesModel" "boxes" "I") ∈ lw_big := lw_bg (lw_m3 (List.mem_of_getElem? (l := tables_1_3) (i := 73) rfl)) rfl
theorem wd554 : (Jvm.Cond.soleField "FormulaShapesModel" "boxes") ∈ lw_big := lw_bg (lw_m3 (List.mem_of_getElem? (l := tables_1_3) (i := 74) rfl)) rfl
theorem wd555 : (Jvm.Cond.laysFinal "FormulaShapesModel" "FormulaShapesModel" "widths" "[I") ∈ lw_big := lw_bg (lw_m3 (List.mem_of_getElem? (l := tables_1_3) (i := 75) rfl)) rfl
theorem wd556 : (Jvm.Cond.soleField "FormulaShapesModel" "widths") ∈ lw_big := lw_bg (lw_m3 (List.mem_of_getElem? (l := tables_1_3) (i := 76) rfl)) rfl
theorem wd557 : (Jvm.Cond.laysFinal "FormulaShapesModel" "FormulaShapesModel" "heights" "[I") ∈ lw_big := lw_bg (lw_m3 (List.mem_of_getElem? (l := tables_1_3) (i := 77) rfl)) rfl
theorem wd558 : (Jvm.Cond.soleField "FormulaShapesModel" "heights") ∈ lw_big := lw_bg (lw_m3 (List.mem_of_getElem? (l := tables_1_3) (i := 78) rfl)) rfl
theorem wd559 : (Jvm.Cond.laysFinal "FormulaShapesModel" "FormulaShapesModel" "depths" "[I") ∈ lw_big := lw_bg (lw_m3 (List.mem_of_getElem? (l := tables_1_3) (i := 79) rfl)) rfl
theorem wd560 : (Jvm.Cond.soleField "FormulaShapesModel" "depths") ∈ lw_big := lw_bg (lw_m3 (List.mem_of_getElem? (l := tables_1_3) (i := 80) rfl)) rfl
theorem wd561 : (Jvm.Cond.laysFinal "FormulaShapesModel" "FormulaShapesModel" "begins" "[I") ∈ lw_big := lw_bg (lw_m3 (List.mem_of_getElem? (l := tables_1_3) (i := 81) rfl)) rfl
theorem wd562 : (Jvm.Cond.soleField "FormulaShapesModel" "begins") ∈ lw_big := lw_bg (lw_m3 (List.mem_of_getElem? (l := tables_1_3) (i := 82) rfl)) rfl
theorem wd563 : (Jvm.Cond.laysFinal "FormulaShapesModel" "FormulaShapesModel" "many" "[I") ∈ lw_big := lw_bg (lw_m3 (List.mem_of_getElem? (l := tables_1_3) (i := 83) rfl)) rfl
theorem wd564 : (Jvm.Cond.soleField "FormulaShapesModel" "many") ∈ lw_big := lw_bg (lw_m3 (List.mem_of_getElem? (l := tables_1_3) (i := 84) rfl)) rfl
theorem wd565 : (Jvm.Cond.laysFinal "FormulaShapesModel" "FormulaShapesModel" "ruleWidth" "[I") ∈ lw_big := lw_bg (lw_m3 (List.mem_of_getElem? (l := tables_1_3) (i := 85) rfl)) rfl
theorem wd566 : (Jvm.Cond.soleField "FormulaShapesModel" "ruleWidth") ∈ lw_big := lw_bg (lw_m3 (List.mem_of_getElem? (l := tables_1_3) (i := 86) rfl)) rfl
theorem wd567 : (Jvm.Cond.laysFinal "FormulaShapesModel" "FormulaShapesModel" "ruleHeight" "[I") ∈ lw_big := lw_bg (lw_m3 (List.mem_of_getElem? (l := tables_1_3) (i := 87) rfl)) rfl
theorem wd568 : (Jvm.Cond.soleField "FormulaShapesModel" "ruleHeight") ∈ lw_big := lw_bg (lw_m3 (List.mem_of_getElem? (l := tables_1_3) (i := 88) rfl)) rfl
theorem wd569 : (Jvm.Cond.lays "FormulaShapesModel" "FormulaShapesModel" "parts" "I") ∈ lw_big := lw_bg (lw_m3 (List.mem_of_getElem? (l := tables_1_3) (i := 89) rfl)) rfl
theorem wd570 : (Jvm.Cond.soleField "FormulaShapesModel" "parts") ∈ lw_big := lw_bg (lw_m3 (List.mem_of_getElem? (l := tables_1_3) (i := 90) rfl)) rfl
theorem wd571 : (Jvm.Cond.laysFinal "FormulaShapesModel" "FormulaShapesModel" "partBox" "[I") ∈ lw_big := lw_bg (lw_m3 (List.mem_of_getElem? (l := tables_1_3) (i := 91) rfl)) rfl
theorem wd572 : (Jvm.Cond.soleField "FormulaShapesModel" "partBox") ∈ lw_big := lw_bg (lw_m3 (List.mem_of_getElem? (l := tables_1_3) (i := 92) rfl)) rfl
theorem wd573 : (Jvm.Cond.laysFinal "FormulaShapesModel" "FormulaShapesModel" "partX" "[I") ∈ lw_big := lw_bg (lw_m3 (List.mem_of_getElem? (l := tables_1_3) (i := 93) rfl)) rfl
theorem wd574 : (Jvm.Cond.soleField "FormulaShapesModel" "partX") ∈ lw_big := lw_bg (lw_m3 (List.mem_of_getElem? (l := tables_1_3) (i := 94) rfl)) rfl
theorem wd575 : (Jvm.Cond.laysFinal "FormulaShapesModel" "FormulaShapesModel" "partY" "[I") ∈ lw_big := lw_bg (lw_m3 (List.mem_of_getElem? (l := tables_1_3) (i := 95) rfl)) rfl
theorem wd576 : (Jvm.Cond.soleField "FormulaShapesModel" "partY") ∈ lw_big := lw_bg (lw_m3 (List.mem_of_getElem? (l := tables_1_3) (i := 96) rfl)) rfl
theorem wd577 : (Jvm.Cond.laysFinal "FormulaShapesModel" "FormulaShapesModel" "signs" "[I") ∈ lw_big := lw_bg (lw_m3 (List.mem_of_getElem? (l := tables_1_3) (i := 97) rfl)) rfl
theorem wd578 : (Jvm.Cond.soleField "FormulaShapesModel" "signs") ∈ lw_big := lw_bg (lw_m3 (List.mem_of_getElem? (l := tables_1_3) (i := 98) rfl)) rfl
theorem wd579 : (Jvm.Cond.laysFinal "FormulaShapesModel" "FormulaShapesModel" "signBox" "[I") ∈ lw_big := lw_bg (lw_m3 (List.mem_of_getElem? (l := tables_1_3) (i := 99) rfl)) rfl
theorem wd580 : (Jvm.Cond.soleField "FormulaShapesModel" "signBox") ∈ lw_big := lw_bg (lw_m3 (List.mem_of_getElem? (l := tables_1_3) (i := 100) rfl)) rfl
theorem wd581 : (Jvm.Cond.laysFinal "FormulaShapesModel" "FormulaShapesModel" "hasPieces" "[Z") ∈ lw_big := lw_bg (lw_m3 (List.mem_of_getElem? (l := tables_1_3) (i := 101) rfl)) rfl
theorem wd582 : (Jvm.Cond.soleField "FormulaShapesModel" "hasPieces") ∈ lw_big := lw_bg (lw_m3 (List.mem_of_getElem? (l := tables_1_3) (i := 102) rfl)) rfl
theorem wd583 : (Jvm.Cond.laysFinal "FormulaShapesModel" "FormulaShapesModel" "piece" "[I") ∈ lw_big := lw_bg (lw_m3 (List.mem_of_getElem? (l := tables_1_3) (i := 103) rfl)) rfl
theorem wd584 : (Jvm.Cond.soleField "FormulaShapesModel" "piece") ∈ lw_big := lw_bg (lw_m3 (List.mem_of_getElem? (l := tables_1_3) (i := 104) rfl)) rfl
theorem wd585 : (Jvm.Cond.lays "FormulaShapesModel" "FormulaShapesModel" "size" "I") ∈ lw_big := lw_bg (lw_m3 (List.mem_of_getElem? (l := tables_1_3) (i := 105) rfl)) rfl
theorem wd586 : (Jvm.Cond.soleField "FormulaShapesModel" "size") ∈ lw_big := lw_bg (lw_m3 (List.mem_of_getElem? (l := tables_1_3) (i := 106) rfl)) rfl
theorem wd587 : (Jvm.Cond.superclass "FormulaShapesModel" "java/lang/Object") ∈ lw_big := lw_bg (lw_m3 (List.mem_of_getElem? (l := tables_1_3) (i := 107) rfl)) rfl
theorem wd588 : (Jvm.Cond.arrayClass Jvm.ClassFile.FieldType.boolean) ∈ lw_big := lw_bg (lw_m3 (List.mem_of_getElem? (l := tables_1_3) (i := 108) rfl)) rfl
theorem wd589 : (Jvm.Cond.methodLink "FormulaShapesLaw" (77 : Nat) ({ cls := "FormulaShapesModel", name := "thrown", desc := "()I" } : Jvm.MethodName)) ∈ lw_big := lw_bg (lw_m3 (List.mem_of_getElem? (l := tables_1_3) (i := 109) rfl)) rfl
theorem wd590 : (Jvm.Cond.instanceMethod ({ cls := "FormulaShapesModel", name := "thrown", desc := "()I" } : Jvm.MethodName)) ∈ lw_big := lw_bg (lw_m3 (List.mem_of_getElem? (l := tables_1_3) (i := 110) rfl)) rfl
theorem wd591 : (Jvm.Cond.selects "FormulaShapesModel" ({ cls := "FormulaShapesModel", name := "thrown", desc := "()I" } : Jvm.MethodName) ({ cls := "FormulaShapesModel", name := "thrown", desc := "()I" } : Jvm.MethodName)) ∈ lw_big := lw_bg (lw_m3 (List.mem_of_getElem? (l := tables_1_3) (i := 111) rfl)) rfl
theorem wd592 : (Jvm.Cond.code ({ cls := "FormulaShapesModel", name := "thrown", desc := "()I" } : Jvm.MethodName) prog_6_method_2_code (1 : Nat) (Option.some Jvm.ClassFile.FieldType.int)) ∈ lw_big := lw_bg (lw_m3 (List.mem_of_getElem? (l := tables_1_3) (i := 112) rfl)) rfl
theorem wd593 : (Jvm.Cond.methodLink "FormulaShapesLaw" (76 : Nat) ({ cls := "FormulaShapesModel", name := "parameter", desc := "(III)I" } : Jvm.MethodName)) ∈ lw_big := lw_bg (lw_m3 (List.mem_of_getElem? (l := tables_1_3) (i := 113) rfl)) rfl
theorem wd594 : (Jvm.Cond.instanceMethod ({ cls := "FormulaShapesModel", name := "parameter", desc := "(III)I" } : Jvm.MethodName)) ∈ lw_big := lw_bg (lw_m3 (List.mem_of_getElem? (l := tables_1_3) (i := 114) rfl)) rfl
theorem wd595 : (Jvm.Cond.selects "FormulaShapesModel" ({ cls := "FormulaShapesModel", name := "parameter", desc := "(III)I" } : Jvm.MethodName) ({ cls := "FormulaShapesModel", name := "parameter", desc := "(III)I" } : Jvm.MethodName)) ∈ lw_big := lw_bg (lw_m3 (List.mem_of_getElem? (l := tables_1_3) (i := 115) rfl)) rfl
theorem wd596 : (Jvm.Cond.code ({ cls := "FormulaShapesModel", name := "parameter", desc := "(III)I" } : Jvm.MethodName) prog_6_method_13_code (5 : Nat) (Option.some Jvm.ClassFile.FieldType.int)) ∈ lw_big := lw_bg (lw_m3 (List.mem_of_getElem? (l := tables_1_3) (i := 116) rfl)) rfl
theorem wd597 : (Jvm.Cond.methodLink "FormulaShapesModel" (63 : Nat) ({ cls := "FormulaShapesModel", name := "in", desc := "(III)Z" } : Jvm.MethodName)) ∈ lw_big := lw_bg (lw_m3 (List.mem_of_getElem? (l := tables_1_3) (i := 117) rfl)) rfl
theorem wd598 : (Jvm.Cond.static ({ cls := "FormulaShapesModel", name := "in", desc := "(III)Z" } : Jvm.MethodName)) ∈ lw_big := lw_bg (lw_m3 (List.mem_of_getElem? (l := tables_1_3) (i := 118) rfl)) rfl
theorem wd599 : (Jvm.Cond.code ({ cls := "FormulaShapesModel", name := "in", desc := "(III)Z" } : Jvm.MethodName) prog_6_method_3_code (3 : Nat) (Option.some Jvm.ClassFile.FieldType.boolean)) ∈ lw_big := lw_bg (lw_m3 (List.mem_of_getElem? (l := tables_1_3) (i := 119) rfl)) rfl
theorem wd600 : (Jvm.Cond.constant "FormulaShapesModel" (74 : Nat) (-1000000 : Int32)) ∈ lw_big := lw_bg (lw_m3 (List.mem_of_getElem? (l := tables_1_3) (i := 120) rfl)) rfl
theorem wd601 : (Jvm.Cond.constant "FormulaShapesModel" (75 : Nat) (1000000 : Int32)) ∈ lw_big := lw_bg (lw_m3 (List.mem_of_getElem? (l := tables_1_3) (i := 121) rfl)) rfl
theorem wd602 : (Jvm.Cond.methodLink "FormulaShapesLaw" (84 : Nat) ({ cls := "FormulaShapesModel", name := "set", desc := "(II)I" } : Jvm.MethodName)) ∈ lw_big := lw_bg (lw_m3 (List.mem_of_getElem? (l := tables_1_3) (i := 122) rfl)) rfl
theorem wd603 : (Jvm.Cond.instanceMethod ({ cls := "FormulaShapesModel", name := "set", desc := "(II)I" } : Jvm.MethodName)) ∈ lw_big := lw_bg (lw_m3 (List.mem_of_getElem? (l := tables_1_3) (i := 123) rfl)) rfl
theorem wd604 : (Jvm.Cond.selects "FormulaShapesModel" ({ cls := "FormulaShapesModel", name := "set", desc := "(II)I" } : Jvm.MethodName) ({ cls := "FormulaShapesModel", name := "set", desc := "(II)I" } : Jvm.MethodName)) ∈ lw_big := lw_bg (lw_m3 (List.mem_of_getElem? (l := tables_1_3) (i := 124) rfl)) rfl
theorem wd605 : (Jvm.Cond.code ({ cls := "FormulaShapesModel", name := "set", desc := "(II)I" } : Jvm.MethodName) prog_6_method_14_code (4 : Nat) (Option.some Jvm.ClassFile.FieldType.int)) ∈ lw_big := lw_bg (lw_m3 (List.mem_of_getElem? (l := tables_1_3) (i := 125) rfl)) rfl
theorem wd606 : (Jvm.Cond.methodLink "FormulaShapesLaw" (87 : Nat) ({ cls := "FormulaShapesModel", name := "box", desc := "(III)I" } : Jvm.MethodName)) ∈ lw_big := lw_bg (lw_m3 (List.mem_of_getElem? (l := tables_1_3) (i := 126) rfl)) rfl
theorem wd607 : (Jvm.Cond.instanceMethod ({ cls := "FormulaShapesModel", name := "box", desc := "(III)I" } : Jvm.MethodName)) ∈ lw_big := lw_bg (lw_m3 (List.mem_of_getElem? (l := tables_1_3) (i := 127) rfl)) rfl
theorem wd608 : (Jvm.Cond.selects "FormulaShapesModel" ({ cls := "FormulaShapesModel", name := "box", desc := "(III)I" } : Jvm.MethodName) ({ cls := "FormulaShapesModel", name := "box", desc := "(III)I" } : Jvm.MethodName)) ∈ lw_big := lw_bg (lw_m3 (List.mem_of_getElem? (l := tables_1_3) (i := 128) rfl)) rfl
theorem wd609 : (Jvm.Cond.code ({ cls := "FormulaShapesModel", name := "box", desc := "(III)I" } : Jvm.MethodName) prog_6_method_17_code (4 : Nat) (Option.some Jvm.ClassFile.FieldType.int)) ∈ lw_big := lw_bg (lw_m3 (List.mem_of_getElem? (l := tables_1_3) (i := 129) rfl)) rfl
theorem wd610 : (Jvm.Cond.methodLink "FormulaShapesModel" (85 : Nat) ({ cls := "FormulaShapesModel", name := "make", desc := "(III)I" } : Jvm.MethodName)) ∈ lw_big := lw_bg (lw_m3 (List.mem_of_getElem? (l := tables_1_3) (i := 130) rfl)) rfl
theorem wd611 : (Jvm.Cond.privateMethod ({ cls := "FormulaShapesModel", name := "make", desc := "(III)I" } : Jvm.MethodName)) ∈ tables_1 := lw_m3 (List.mem_of_getElem? (l := tables_1_3) (i := 131) rfl)
theorem wd612 : (Jvm.Cond.instanceMethod ({ cls := "FormulaShapesModel", name := "make", desc := "(III)I" } : Jvm.MethodName)) ∈ lw_big := lw_bg (lw_m3 (List.mem_of_getElem? (l := tables_1_3) (i := 132) rfl)) rfl
theorem wd613 : (Jvm.Cond.code ({ cls := "FormulaShapesModel", name := "make", desc := "(III)I" } : Jvm.MethodName) prog_6_method_15_code (4 : Nat) (Option.some Jvm.ClassFile.FieldType.int)) ∈ lw_big := lw_bg (lw_m3 (List.mem_of_getElem? (l := tables_1_3) (i := 133) rfl)) rfl
theorem wd614 : (Jvm.Cond.methodLink "FormulaShapesLaw" (90 : Nat) ({ cls := "FormulaShapesModel", name := "sign", desc := "(II)I" } : Jvm.MethodName)) ∈ lw_big := lw_bg (lw_m3 (List.mem_of_getElem? (l := tables_1_3) (i := 134) rfl)) rfl
theorem wd615 : (Jvm.Cond.instanceMethod ({ cls := "FormulaShapesModel", name := "sign", desc := "(II)I" } : Jvm.MethodName)) ∈ lw_big := lw_bg (lw_m3 (List.mem_of_getElem? (l := tables_1_3) (i := 135) rfl)) rfl
theorem wd616 : (Jvm.Cond.selects "FormulaShapesModel" ({ cls := "FormulaShapesModel", name := "sign", desc := "(II)I" } : Jvm.MethodName) ({ cls := "FormulaShapesModel", name := "sign", desc := "(II)I" } : Jvm.MethodName)) ∈ lw_big := lw_bg (lw_m3 (List.mem_of_getElem? (l := tables_1_3) (i := 136) rfl)) rfl
theorem wd617 : (Jvm.Cond.code ({ cls := "FormulaShapesModel", name := "sign", desc := "(II)I" } : Jvm.MethodName) prog_6_method_18_code (3 : Nat) (Option.some Jvm.ClassFile.FieldType.int)) ∈ lw_big := lw_bg (lw_m3 (List.mem_of_getElem? (l := tables_1_3) (i := 137) rfl)) rfl
theorem wd618 : (Jvm.Cond.methodLink "FormulaShapesModel" (89 : Nat) ({ cls := "FormulaShapesModel", name := "isFamily", desc := "(I)Z" } : Jvm.MethodName)) ∈ lw_big := lw_bg (lw_m3 (List.mem_of_getElem? (l := tables_1_3) (i := 138) rfl)) rfl
theorem wd619 : (Jvm.Cond.static ({ cls := "FormulaShapesModel", name := "isFamily", desc := "(I)Z" } : Jvm.MethodName)) ∈ lw_big := lw_bg (lw_m3 (List.mem_of_getElem? (l := tables_1_3) (i := 139) rfl)) rfl
theorem wd620 : (Jvm.Cond.code ({ cls := "FormulaShapesModel", name := "isFamily", desc := "(I)Z" } : Jvm.MethodName) prog_6_method_9_code (1 : Nat) (Option.some Jvm.ClassFile.FieldType.boolean)) ∈ lw_big := lw_bg (lw_m3 (List.mem_of_getElem? (l := tables_1_3) (i := 140) rfl)) rfl
theorem wd621 : (Jvm.Cond.methodLink "FormulaShapesModel" (67 : Nat) ({ cls := "FormulaShapesModel", name := "isBox", desc := "(I)Z" } : Jvm.MethodName)) ∈ lw_big := lw_bg (lw_m3 (List.mem_of_getElem? (l := tables_1_3) (i := 141) rfl)) rfl
theorem wd622 : (Jvm.Cond.privateMethod ({ cls := "FormulaShapesModel", name := "isBox", desc := "(I)Z" } : Jvm.MethodName)) ∈ tables_1 := lw_m3 (List.mem_of_getElem? (l := tables_1_3) (i := 142) rfl)
theorem wd623 : (Jvm.Cond.instanceMethod ({ cls := "FormulaShapesModel", name := "isBox", desc := "(I)Z" } : Jvm.MethodName)) ∈ lw_big := lw_bg (lw_m3 (List.mem_of_getElem? (l := tables_1_3) (i := 143) rfl)) rfl
theorem wd624 : (Jvm.Cond.code ({ cls := "FormulaShapesModel", name := "isBox", desc := "(I)Z" } : Jvm.MethodName) prog_6_method_7_code (2 : Nat) (Option.some Jvm.ClassFile.FieldType.boolean)) ∈ lw_big := lw_bg (lw_m3 (List.mem_of_getElem? (l := tables_1_3) (i := 144) rfl)) rfl
theorem wd625 : (Jvm.Cond.methodLink "FormulaShapesLaw" (94 : Nat) ({ cls := "FormulaShapesModel", name := "pieces", desc := "(IIIII)V" } : Jvm.MethodName)) ∈ lw_big := lw_bg (lw_m3 (List.mem_of_getElem? (l := tables_1_3) (i := 145) rfl)) rfl
theorem wd626 : (Jvm.Cond.instanceMethod ({ cls := "FormulaShapesModel", name := "pieces", desc := "(IIIII)V" } : Jvm.MethodName)) ∈ lw_big := lw_bg (lw_m3 (List.mem_of_getElem? (l := tables_1_3) (i := 146) rfl)) rfl
theorem wd627 : (Jvm.Cond.selects "FormulaShapesModel" ({ cls := "FormulaShapesModel", name := "pieces", desc := "(IIIII)V" } : Jvm.MethodName) ({ cls := "FormulaShapesModel", name := "pieces", desc := "(IIIII)V" } : Jvm.MethodName)) ∈ lw_big := lw_bg (lw_m3 (List.mem_of_getElem? (l := tables_1_3) (i := 147) rfl)) rfl
theorem wd628 : (Jvm.Cond.code ({ cls := "FormulaShapesModel", name := "pieces", desc := "(IIIII)V" } : Jvm.MethodName) prog_6_method_19_code (7 : Nat) (Option.none : Option Jvm.ClassFile.FieldType)) ∈ lw_big := lw_bg (lw_m3 (List.mem_of_getElem? (l := tables_1_3) (i := 148) rfl)) rfl
theorem wd629 : (Jvm.Cond.methodLink "FormulaShapesModel" (92 : Nat) ({ cls := "FormulaShapesModel", name := "isBoxOrNone", desc := "(I)Z" } : Jvm.MethodName)) ∈ lw_big := lw_bg (lw_m3 (List.mem_of_getElem? (l := tables_1_3) (i := 149) rfl)) rfl
theorem wd630 : (Jvm.Cond.privateMethod ({ cls := "FormulaShapesModel", name := "isBoxOrNone", desc := "(I)Z" } : Jvm.MethodName)) ∈ tables_1 := lw_m3 (List.mem_of_getElem? (l := tables_1_3) (i := 150) rfl)
theorem wd631 : (Jvm.Cond.instanceMethod ({ cls := "FormulaShapesModel", name := "isBoxOrNone", desc := "(I)Z" } : Jvm.MethodName)) ∈ lw_big := lw_bg (lw_m3 (List.mem_of_getElem? (l := tables_1_3) (i := 151) rfl)) rfl
theorem wd632 : (Jvm.Cond.code ({ cls := "FormulaShapesModel", name := "isBoxOrNone", desc := "(I)Z" } : Jvm.MethodName) prog_6_method_8_code (2 : Nat) (Option.some Jvm.ClassFile.FieldType.boolean)) ∈ lw_big := lw_bg (lw_m3 (List.mem_of_getElem? (l := tables_1_3) (i := 152) rfl)) rfl
theorem wd633 : (Jvm.Cond.methodLink "FormulaShapesLaw" (97 : Nat) ({ cls := "FormulaShapesModel", name := "signOf", desc := "(II)I" } : Jvm.MethodName)) ∈ lw_big := lw_bg (lw_m3 (List.mem_of_getElem? (l := tables_1_3) (i := 153) rfl)) rfl
theorem wd634 : (Jvm.Cond.instanceMethod ({ cls := "FormulaShapesModel", name := "signOf", desc := "(II)I" } : Jvm.MethodName)) ∈ lw_big := lw_bg (lw_m3 (List.mem_of_getElem? (l := tables_1_3) (i := 154) rfl)) rfl
theorem wd635 : (Jvm.Cond.selects "FormulaShapesModel" ({ cls := "FormulaShapesModel", name := "signOf", desc := "(II)I" } : Jvm.MethodName) ({ cls := "FormulaShapesModel", name := "signOf", desc := "(II)I" } : Jvm.MethodName)) ∈ lw_big := lw_bg (lw_m3 (List.mem_of_getElem? (l := tables_1_3) (i := 155) rfl)) rfl
theorem wd636 : (Jvm.Cond.code ({ cls := "FormulaShapesModel", name := "signOf", desc := "(II)I" } : Jvm.MethodName) prog_6_method_25_code (3 : Nat) (Option.some Jvm.ClassFile.FieldType.int)) ∈ lw_big := lw_bg (lw_m3 (List.mem_of_getElem? (l := tables_1_3) (i := 156) rfl)) rfl
theorem wd637 : (Jvm.Cond.constant "FormulaShapesModel" (117 : Nat) (100000000 : Int32)) ∈ lw_big := lw_bg (lw_m3 (List.mem_of_getElem? (l := tables_1_3) (i := 157) rfl)) rfl
theorem wd638 : (Jvm.Cond.methodLink "FormulaShapesModel" (107 : Nat) ({ cls := "FormulaShapesModel", name := "plan", desc := "(II)I" } : Jvm.MethodName)) ∈ lw_big := lw_bg (lw_m3 (List.mem_of_getElem? (l := tables_1_3) (i := 158) rfl)) rfl
theorem wd639 : (Jvm.Cond.privateMethod ({ cls := "FormulaShapesModel", name := "plan", desc := "(II)I" } : Jvm.MethodName)) ∈ tables_1 := lw_m3 (List.mem_of_getElem? (l := tables_1_3) (i := 159) rfl)
theorem wd640 : (Jvm.Cond.instanceMethod ({ cls := "FormulaShapesModel", name := "plan", desc := "(II)I" } : Jvm.MethodName)) ∈ lw_big := lw_bg (lw_m3 (List.mem_of_getElem? (l := tables_1_3) (i := 160) rfl)) rfl
theorem wd641 : (Jvm.Cond.code ({ cls := "FormulaShapesModel", name := "plan", desc := "(II)I" } : Jvm.MethodName) prog_6_method_21_code (4 : Nat) (Option.some Jvm.ClassFile.FieldType.int)) ∈ lw_big := lw_bg (lw_m3 (List.mem_of_getElem? (l := tables_1_3) (i := 161) rfl)) rfl
theorem wd642 : (Jvm.Cond.methodLink "FormulaShapesModel" (95 : Nat) ({ cls := "FormulaShapesModel", name := "tall", desc := "(I)I" } : Jvm.MethodName)) ∈ lw_big := lw_bg (lw_m3 (List.mem_of_getElem? (l := tables_1_3) (i := 162) rfl)) rfl
theorem wd643 : (Jvm.Cond.privateMethod ({ cls := "FormulaShapesModel", name := "tall", desc := "(I)I" } : Jvm.MethodName)) ∈ tables_1 := lw_m3 (List.mem_of_getElem? (l := tables_1_3) (i := 163) rfl)
theorem wd644 : (Jvm.Cond.instanceMethod ({ cls := "FormulaShapesModel", name := "tall", desc := "(I)I" } : Jvm.MethodName)) ∈ lw_big := lw_bg (lw_m3 (List.mem_of_getElem? (l := tables_1_3) (i := 164) rfl)) rfl
theorem wd645 : (Jvm.Cond.code ({ cls := "FormulaShapesModel", name := "tall", desc := "(I)I" } : Jvm.MethodName) prog_6_method_20_code (2 : Nat) (Option.some Jvm.ClassFile.FieldType.int)) ∈ lw_big := lw_bg (lw_m3 (List.mem_of_getElem? (l := tables_1_3) (i := 165) rfl)) rfl
theorem wd646 : (Jvm.Cond.methodLink "FormulaShapesModel" (118 : Nat) ({ cls := "FormulaShapesModel", name := "signBy", desc := "(II)I" } : Jvm.MethodName)) ∈ lw_big := lw_bg (lw_m3 (List.mem_of_getElem? (l := tables_1_3) (i := 166) rfl)) rfl
theorem wd647 : (Jvm.Cond.privateMethod ({ cls := "FormulaShapesModel", name := "signBy", desc := "(II)I" } : Jvm.MethodName)) ∈ tables_1 := lw_m3 (List.mem_of_getElem? (l := tables_1_3) (i := 167) rfl)
theorem wd648 : (Jvm.Cond.instanceMethod ({ cls := "FormulaShapesModel", name := "signBy", desc := "(II)I" } : Jvm.MethodName)) ∈ lw_big := lw_bg (lw_m3 (List.mem_of_getElem? (l := tables_1_3) (i := 168) rfl)) rfl
theorem wd649 : (Jvm.Cond.code ({ cls := "FormulaShapesModel", name := "signBy", desc := "(II)I" } : Jvm.MethodName) prog_6_method_24_code (7 : Nat) (Option.some Jvm.ClassFile.FieldType.int)) ∈ lw_big := lw_bg (lw_m3 (List.mem_of_getElem? (l := tables_1_3) (i := 169) rfl)) rfl
theorem wd650 : (Jvm.Cond.methodLink "FormulaShapesModel" (110 : Nat) ({ cls := "FormulaShapesModel", name := "repeats", desc := "(II)I" } : Jvm.MethodName)) ∈ lw_big := lw_bg (lw_m3 (List.mem_of_getElem? (l := tables_1_3) (i := 170) rfl)) rfl
theorem wd651 : (Jvm.Cond.privateMethod ({ cls := "FormulaShapesModel", name := "repeats", desc := "(II)I" } : Jvm.MethodName)) ∈ tables_1 := lw_m3 (List.mem_of_getElem? (l := tables_1_3) (i := 171) rfl)
theorem wd652 : (Jvm.Cond.instanceMethod ({ cls := "FormulaShapesModel", name := "repeats", desc := "(II)I" } : Jvm.MethodName)) ∈ lw_big := lw_bg (lw_m3 (List.mem_of_getElem? (l := tables_1_3) (i := 172) rfl)) rfl
theorem wd653 : (Jvm.Cond.code ({ cls := "FormulaShapesModel", name := "repeats", desc := "(II)I" } : Jvm.MethodName) prog_6_method_22_code (6 : Nat) (Option.some Jvm.ClassFile.FieldType.int)) ∈ lw_big := lw_bg (lw_m3 (List.mem_of_getElem? (l := tables_1_3) (i := 173) rfl)) rfl
theorem wd654 : (Jvm.Cond.methodLink "FormulaShapesModel" (113 : Nat) ({ cls := "FormulaShapesModel", name := "pile", desc := "(I)V" } : Jvm.MethodName)) ∈ lw_big := lw_bg (lw_m3 (List.mem_of_getElem? (l := tables_1_3) (i := 174) rfl)) rfl
theorem wd655 : (Jvm.Cond.privateMethod ({ cls := "FormulaShapesModel", name := "pile", desc := "(I)V" } : Jvm.MethodName)) ∈ tables_1 := lw_m3 (List.mem_of_getElem? (l := tables_1_3) (i := 175) rfl)
theorem wd656 : (Jvm.Cond.instanceMethod ({ cls := "FormulaShapesModel", name := "pile", desc := "(I)V" } : Jvm.MethodName)) ∈ lw_big := lw_bg (lw_m3 (List.mem_of_getElem? (l := tables_1_3) (i := 176) rfl)) rfl
theorem wd657 : (Jvm.Cond.code ({ cls := "FormulaShapesModel", name := "pile", desc := "(I)V" } : Jvm.MethodName) prog_6_method_23_code (3 : Nat) (Option.none : Option Jvm.ClassFile.FieldType)) ∈ lw_big := lw_bg (lw_m3 (List.mem_of_getElem? (l := tables_1_3) (i := 177) rfl)) rfl
theorem wd658 : (Jvm.Cond.methodLink "FormulaShapesModel" (99 : Nat) ({ cls := "FormulaShapesModel", name := "lay", desc := "(III)V" } : Jvm.MethodName)) ∈ lw_big := lw_bg (lw_m3 (List.mem_of_getElem? (l := tables_1_3) (i := 178) rfl)) rfl
theorem wd659 : (Jvm.Cond.privateMethod ({ cls := "FormulaShapesModel", name := "lay", desc := "(III)V" } : Jvm.MethodName)) ∈ tables_1 := lw_m3 (List.mem_of_getElem? (l := tables_1_3) (i := 179) rfl)
theorem wd660 : (Jvm.Cond.instanceMethod ({ cls := "FormulaShapesModel", name := "lay", desc := "(III)V" } : Jvm.MethodName)) ∈ lw_big := lw_bg (lw_m3 (List.mem_of_getElem? (l := tables_1_3) (i := 180) rfl)) rfl
theorem wd661 : (Jvm.Cond.code ({ cls := "FormulaShapesModel", name := "lay", desc := "(III)V" } : Jvm.MethodName) prog_6_method_16_code (4 : Nat) (Option.none : Option Jvm.ClassFile.FieldType)) ∈ lw_big := lw_bg (lw_m3 (List.mem_of_getElem? (l := tables_1_3) (i := 181) rfl)) rfl
theorem wd662 : (Jvm.Cond.methodLink "FormulaShapesModel" (103 : Nat) ({ cls := "FormulaShapesModel", name := "greater", desc := "(II)I" } : Jvm.MethodName)) ∈ lw_big := lw_bg (lw_m3 (List.mem_of_getElem? (l := tables_1_3) (i := 182) rfl)) rfl
theorem wd663 : (Jvm.Cond.static ({ cls := "FormulaShapesModel", name := "greater", desc := "(II)I" } : Jvm.MethodName)) ∈ lw_big := lw_bg (lw_m3 (List.mem_of_getElem? (l := tables_1_3) (i := 183) rfl)) rfl
theorem wd664 : (Jvm.Cond.code ({ cls := "FormulaShapesModel", name := "greater", desc := "(II)I" } : Jvm.MethodName) prog_6_method_6_code (2 : Nat) (Option.some Jvm.ClassFile.FieldType.int)) ∈ lw_big := lw_bg (lw_m3 (List.mem_of_getElem? (l := tables_1_3) (i := 184) rfl)) rfl
theorem wd665 : (Jvm.Cond.methodLink "FormulaShapesLaw" (101 : Nat) ({ cls := "FormulaShapesModel", name := "fraction", desc := "(IIII)I" } : Jvm.MethodName)) ∈ lw_big := lw_bg (lw_m3 (List.mem_of_getElem? (l := tables_1_3) (i := 185) rfl)) rfl
theorem wd666 : (Jvm.Cond.instanceMethod ({ cls := "FormulaShapesModel", name := "fraction", desc := "(IIII)I" } : Jvm.MethodName)) ∈ lw_big := lw_bg (lw_m3 (List.mem_of_getElem? (l := tables_1_3) (i := 186) rfl)) rfl
theorem wd667 : (Jvm.Cond.selects "FormulaShapesModel" ({ cls := "FormulaShapesModel", name := "fraction", desc := "(IIII)I" } : Jvm.MethodName) ({ cls := "FormulaShapesModel", name := "fraction", desc := "(IIII)I" } : Jvm.MethodName)) ∈ lw_big := lw_bg (lw_m3 (List.mem_of_getElem? (l := tables_1_3) (i := 187) rfl)) rfl
theorem wd668 : (Jvm.Cond.code ({ cls := "FormulaShapesModel", name := "fraction", desc := "(IIII)I" } : Jvm.MethodName) prog_6_method_26_code (11 : Nat) (Option.some Jvm.ClassFile.FieldType.int)) ∈ lw_big := lw_bg (lw_m3 (List.mem_of_getElem? (l := tables_1_3) (i := 188) rfl)) rfl
theorem wd669 : (Jvm.Cond.methodLink "FormulaShapesModel" (121 : Nat) ({ cls := "FormulaShapesModel", name := "isStyle", desc := "(I)Z" } : Jvm.MethodName)) ∈ lw_big := lw_bg (lw_m3 (List.mem_of_getElem? (l := tables_1_3) (i := 189) rfl)) rfl
theorem wd670 : (Jvm.Cond.static ({ cls := "FormulaShapesModel", name := "isStyle", desc := "(I)Z" } : Jvm.MethodName)) ∈ lw_big := lw_bg (lw_m3 (List.mem_of_getElem? (l := tables_1_3) (i := 190) rfl)) rfl
theorem wd671 : (Jvm.Cond.code ({ cls := "FormulaShapesModel", name := "isStyle", desc := "(I)Z" } : Jvm.MethodName) prog_6_method_10_code (1 : Nat) (Option.some Jvm.ClassFile.FieldType.boolean)) ∈ lw_big := lw_bg (lw_m3 (List.mem_of_getElem? (l := tables_1_3) (i := 191) rfl)) rfl
theorem wd672 : (Jvm.Cond.methodLink "FormulaShapesModel" (124 : Nat) ({ cls := "FormulaShapesModel", name := "use", desc := "(I)V" } : Jvm.MethodName)) ∈ lw_big := lw_bg (lw_m3 (List.mem_of_getElem? (l := tables_1_3) (i := 192) rfl)) rfl
theorem wd673 : (Jvm.Cond.privateMethod ({ cls := "FormulaShapesModel", name := "use", desc := "(I)V" } : Jvm.MethodName)) ∈ tables_1 := lw_m3 (List.mem_of_getElem? (l := tables_1_3) (i := 193) rfl)
theorem wd674 : (Jvm.Cond.instanceMethod ({ cls := "FormulaShapesModel", name := "use", desc := "(I)V" } : Jvm.MethodName)) ∈ lw_big := lw_bg (lw_m3 (List.mem_of_getElem? (l := tables_1_3) (i := 194) rfl)) rfl
theorem wd675 : (Jvm.Cond.code ({ cls := "FormulaShapesModel", name := "use", desc := "(I)V" } : Jvm.MethodName) prog_6_method_12_code (2 : Nat) (Option.none : Option Jvm.ClassFile.FieldType)) ∈ lw_big := lw_bg (lw_m3 (List.mem_of_getElem? (l := tables_1_3) (i := 195) rfl)) rfl
theorem wd676 : (Jvm.Cond.methodLink "FormulaShapesModel" (127 : Nat) ({ cls := "FormulaShapesModel", name := "p", desc := "(I)I" } : Jvm.MethodName)) ∈ lw_big := lw_bg (lw_m3 (List.mem_of_getElem? (l := tables_1_3) (i := 196) rfl)) rfl
theorem wd677 : (Jvm.Cond.privateMethod ({ cls := "FormulaShapesModel", name := "p", desc := "(I)I" } : Jvm.MethodName)) ∈ tables_1 := lw_m3 (List.mem_of_getElem? (l := tables_1_3) (i := 197) rfl)
theorem wd678 : (Jvm.Cond.instanceMethod ({ cls := "FormulaShapesModel", name := "p", desc := "(I)I" } : Jvm.MethodName)) ∈ lw_big := lw_bg (lw_m3 (List.mem_of_getElem? (l := tables_1_3) (i := 198) rfl)) rfl
theorem wd679 : (Jvm.Cond.code ({ cls := "FormulaShapesModel", name := "p", desc := "(I)I" } : Jvm.MethodName) prog_6_method_11_code (2 : Nat) (Option.some Jvm.ClassFile.FieldType.int)) ∈ lw_big := lw_bg (lw_m3 (List.mem_of_getElem? (l := tables_1_3) (i := 199) rfl)) rfl
theorem wd680 : (Jvm.Cond.methodLink "FormulaShapesModel" (130 : Nat) ({ cls := "FormulaShapesModel", name := "half", desc := "(I)I" } : Jvm.MethodName)) ∈ lw_big := lw_bg (lw_m3 (List.mem_of_getElem? (l := tables_1_3) (i := 200) rfl)) rfl
theorem wd681 : (Jvm.Cond.static ({ cls := "FormulaShapesModel", name := "half", desc := "(I)I" } : Jvm.MethodName)) ∈ lw_big := lw_bg (lw_m3 (List.mem_of_getElem? (l := tables_1_3) (i := 201) rfl)) rfl
theorem wd682 : (Jvm.Cond.code ({ cls := "FormulaShapesModel", name := "half", desc := "(I)I" } : Jvm.MethodName) prog_6_method_4_code (1 : Nat) (Option.some Jvm.ClassFile.FieldType.int)) ∈ lw_big := lw_bg (lw_m3 (List.mem_of_getElem? (l := tables_1_3) (i := 202) rfl)) rfl
theorem wd683 : (Jvm.Cond.methodLink "FormulaShapesLaw" (104 : Nat) ({ cls := "FormulaShapesModel", name := "root", desc := "(III)I" } : Jvm.MethodName)) ∈ lw_big := lw_bg (lw_m3 (List.mem_of_getElem? (l := tables_1_3) (i := 203) rfl)) rfl
theorem wd684 : (Jvm.Cond.instanceMethod ({ cls := "FormulaShapesModel", name := "root", desc := "(III)I" } : Jvm.MethodName)) ∈ lw_big := lw_bg (lw_m3 (List.mem_of_getElem? (l := tables_1_3) (i := 204) rfl)) rfl
theorem wd685 : (Jvm.Cond.selects "FormulaShapesModel" ({ cls := "FormulaShapesModel", name := "root", desc := "(III)I" } : Jvm.MethodName) ({ cls := "FormulaShapesModel", name := "root", desc := "(III)I" } : Jvm.MethodName)) ∈ lw_big := lw_bg (lw_m3 (List.mem_of_getElem? (l := tables_1_3) (i := 205) rfl)) rfl
theorem wd686 : (Jvm.Cond.code ({ cls := "FormulaShapesModel", name := "root", desc := "(III)I" } : Jvm.MethodName) prog_6_method_27_code (14 : Nat) (Option.some Jvm.ClassFile.FieldType.int)) ∈ lw_big := lw_bg (lw_m3 (List.mem_of_getElem? (l := tables_1_3) (i := 206) rfl)) rfl
theorem wd687 : (Jvm.Cond.methodLink "FormulaShapesModel" (133 : Nat) ({ cls := "FormulaShapesModel", name := "abs", desc := "(I)I" } : Jvm.MethodName)) ∈ lw_big := lw_bg (lw_m3 (List.mem_of_getElem? (l := tables_1_3) (i := 207) rfl)) rfl
theorem wd688 : (Jvm.Cond.static ({ cls := "FormulaShapesModel", name := "abs", desc := "(I)I" } : Jvm.MethodName)) ∈ lw_big := lw_bg (lw_m3 (List.mem_of_getElem? (l := tables_1_3) (i := 208) rfl)) rfl
theorem wd689 : (Jvm.Cond.code ({ cls := "FormulaShapesModel", name := "abs", desc := "(I)I" } : Jvm.MethodName) prog_6_method_5_code (1 : Nat) (Option.some Jvm.ClassFile.FieldType.int)) ∈ lw_big := lw_bg (lw_m3 (List.mem_of_getElem? (l := tables_1_3) (i := 209) rfl)) rfl
theorem wd690 : (Jvm.Cond.methodLink "FormulaShapesLaw" (108 : Nat) ({ cls := "FormulaShapesModel", name := "signs", desc := "(IZIZII)I" } : Jvm.MethodName)) ∈ lw_big := lw_bg (lw_m3 (List.mem_of_getElem? (l := tables_1_3) (i := 210) rfl)) rfl
theorem wd691 : (Jvm.Cond.instanceMethod ({ cls := "FormulaShapesModel", name := "signs", desc := "(IZIZII)I" } : Jvm.MethodName)) ∈ lw_big := lw_bg (lw_m3 (List.mem_of_getElem? (l := tables_1_3) (i := 211) rfl)) rfl
theorem wd692 : (Jvm.Cond.selects "FormulaShapesModel" ({ cls := "FormulaShapesModel", name := "signs", desc := "(IZIZII)I" } : Jvm.MethodName) ({ cls := "FormulaShapesModel", name := "signs", desc := "(IZIZII)I" } : Jvm.MethodName)) ∈ lw_big := lw_bg (lw_m3 (List.mem_of_getElem? (l := tables_1_3) (i := 212) rfl)) rfl
theorem wd693 : (Jvm.Cond.code ({ cls := "FormulaShapesModel", name := "signs", desc := "(IZIZII)I" } : Jvm.MethodName) prog_6_method_28_code (13 : Nat) (Option.some Jvm.ClassFile.FieldType.int)) ∈ lw_big := lw_bg (lw_m3 (List.mem_of_getElem? (l := tables_1_3) (i := 213) rfl)) rfl
theorem wd694 : (Jvm.Cond.methodLink "FormulaShapesLaw" (111 : Nat) ({ cls := "FormulaShapesModel", name := "limits", desc := "(IIII)I" } : Jvm.MethodName)) ∈ lw_big := lw_bg (lw_m3 (List.mem_of_getElem? (l := tables_1_3) (i := 214) rfl)) rfl
theorem wd695 : (Jvm.Cond.instanceMethod ({ cls := "FormulaShapesModel", name := "limits", desc := "(IIII)I" } : Jvm.MethodName)) ∈ lw_big := lw_bg (lw_m3 (List.mem_of_getElem? (l := tables_1_3) (i := 215) rfl)) rfl
theorem wd696 : (Jvm.Cond.selects "FormulaShapesModel" ({ cls := "FormulaShapesModel", name := "limits", desc := "(IIII)I" } : Jvm.MethodName) ({ cls := "FormulaShapesModel", name := "limits", desc := "(IIII)I" } : Jvm.MethodName)) ∈ lw_big := lw_bg (lw_m3 (List.mem_of_getElem? (l := tables_1_3) (i := 216) rfl)) rfl
theorem wd697 : (Jvm.Cond.code ({ cls := "FormulaShapesModel", name := "limits", desc := "(IIII)I" } : Jvm.MethodName) prog_6_method_29_code (11 : Nat) (Option.some Jvm.ClassFile.FieldType.int)) ∈ lw_big := lw_bg (lw_m3 (List.mem_of_getElem? (l := tables_1_3) (i := 217) rfl)) rfl
theorem wd698 : (Jvm.Cond.methodLink "FormulaShapesLaw" (114 : Nat) ({ cls := "FormulaShapesModel", name := "brackets", desc := "(IIII)I" } : Jvm.MethodName)) ∈ lw_big := lw_bg (lw_m3 (List.mem_of_getElem? (l := tables_1_3) (i := 218) rfl)) rfl
theorem wd699 : (Jvm.Cond.instanceMethod ({ cls := "FormulaShapesModel", name := "brackets", desc := "(IIII)I" } : Jvm.MethodName)) ∈ lw_big := lw_bg (lw_m3 (List.mem_of_getElem? (l := tables_1_3) (i := 219) rfl)) rfl
theorem wd700 : (Jvm.Cond.selects "FormulaShapesModel" ({ cls := "FormulaShapesModel", name := "brackets", desc := "(IIII)I" } : Jvm.MethodName) ({ cls := "FormulaShapesModel", name := "brackets", desc := "(IIII)I" } : Jvm.MethodName)) ∈ lw_big := lw_bg (lw_m3 (List.mem_of_getElem? (l := tables_1_3) (i := 220) rfl)) rfl
theorem wd701 : (Jvm.Cond.code ({ cls := "FormulaShapesModel", name := "brackets", desc := "(IIII)I" } : Jvm.MethodName) prog_6_method_31_code (13 : Nat) (Option.some Jvm.ClassFile.FieldType.int)) ∈ lw_big := lw_bg (lw_m3 (List.mem_of_getElem? (l := tables_1_3) (i := 221) rfl)) rfl
theorem wd702 : (Jvm.Cond.methodLink "FormulaShapesModel" (136 : Nat) ({ cls := "FormulaShapesModel", name := "reach", desc := "()V" } : Jvm.MethodName)) ∈ lw_big := lw_bg (lw_m3 (List.mem_of_getElem? (l := tables_1_3) (i := 222) rfl)) rfl
theorem wd703 : (Jvm.Cond.privateMethod ({ cls := "FormulaShapesModel", name := "reach", desc := "()V" } : Jvm.MethodName)) ∈ tables_1 := lw_m3 (List.mem_of_getElem? (l := tables_1_3) (i := 223) rfl)
theorem wd704 : (Jvm.Cond.instanceMethod ({ cls := "FormulaShapesModel", name := "reach", desc := "()V" } : Jvm.MethodName)) ∈ lw_big := lw_bg (lw_m3 (List.mem_of_getElem? (l := tables_1_3) (i := 224) rfl)) rfl
theorem wd705 : (Jvm.Cond.code ({ cls := "FormulaShapesModel", name := "reach", desc := "()V" } : Jvm.MethodName) prog_6_method_30_code (6 : Nat) (Option.none : Option Jvm.ClassFile.FieldType)) ∈ lw_big := lw_bg (lw_m3 (List.mem_of_getElem? (l := tables_1_3) (i := 225) rfl)) rfl
theorem wd706 : (Jvm.Cond.methodLink "FormulaShapesLaw" (117 : Nat) ({ cls := "FormulaShapesModel", name := "row", desc := "(III)I" } : Jvm.MethodName)) ∈ lw_big := lw_bg (lw_m3 (List.mem_of_getElem? (l := tables_1_3) (i := 226) rfl)) rfl
theorem wd707 : (Jvm.Cond.instanceMethod ({ cls := "FormulaShapesModel", name := "row", desc := "(III)I" } : Jvm.MethodName)) ∈ lw_big := lw_bg (lw_m3 (List.mem_of_getElem? (l := tables_1_3) (i := 227) rfl)) rfl
theorem wd708 : (Jvm.Cond.selects "FormulaShapesModel" ({ cls := "FormulaShapesModel", name := "row", desc := "(III)I" } : Jvm.MethodName) ({ cls := "FormulaShapesModel", name := "row", desc := "(III)I" } : Jvm.MethodName)) ∈ lw_big := lw_bg (lw_m3 (List.mem_of_getElem? (l := tables_1_3) (i := 228) rfl)) rfl
theorem wd709 : (Jvm.Cond.code ({ cls := "FormulaShapesModel", name := "row", desc := "(III)I" } : Jvm.MethodName) prog_6_method_32_code (5 : Nat) (Option.some Jvm.ClassFile.FieldType.int)) ∈ lw_big := lw_bg (lw_m3 (List.mem_of_getElem? (l := tables_1_3) (i := 229) rfl)) rfl
theorem wd710 : (Jvm.Cond.methodLink "FormulaShapesLaw" (120 : Nat) ({ cls := "FormulaShapesModel", name := "centre", desc := "(II)I" } : Jvm.MethodName)) ∈ lw_big := lw_bg (lw_m3 (List.mem_of_getElem? (l := tables_1_3) (i := 230) rfl)) rfl
theorem wd711 : (Jvm.Cond.instanceMethod ({ cls := "FormulaShapesModel", name := "centre", desc := "(II)I" } : Jvm.MethodName)) ∈ lw_big := lw_bg (lw_m3 (List.mem_of_getElem? (l := tables_1_3) (i := 231) rfl)) rfl
theorem wd712 : (Jvm.Cond.selects "FormulaShapesModel" ({ cls := "FormulaShapesModel", name := "centre", desc := "(II)I" } : Jvm.MethodName) ({ cls := "FormulaShapesModel", name := "centre", desc := "(II)I" } : Jvm.MethodName)) ∈ lw_big := lw_bg (lw_m3 (List.mem_of_getElem? (l := tables_1_3) (i := 232) rfl)) rfl
theorem wd713 : (Jvm.Cond.code ({ cls := "FormulaShapesModel", name := "centre", desc := "(II)I" } : Jvm.MethodName) prog_6_method_33_code (4 : Nat) (Option.some Jvm.ClassFile.FieldType.int)) ∈ lw_big := lw_bg (lw_m3 (List.mem_of_getElem? (l := tables_1_3) (i := 233) rfl)) rfl
theorem wd714 : (Jvm.Cond.methodLink "FormulaShapesLaw" (123 : Nat) ({ cls := "FormulaShapesModel", name := "told", desc := "(II)I" } : Jvm.MethodName)) ∈ lw_big := lw_bg (lw_m3 (List.mem_of_getElem? (l := tables_1_3) (i := 234) rfl)) rfl
theorem wd715 : (Jvm.Cond.instanceMethod ({ cls := "FormulaShapesModel", name := "told", desc := "(II)I" } : Jvm.MethodName)) ∈ lw_big := lw_bg (lw_m3 (List.mem_of_getElem? (l := tables_1_3) (i := 235) rfl)) rfl
theorem wd716 : (Jvm.Cond.selects "FormulaShapesModel" ({ cls := "FormulaShapesModel", name := "told", desc := "(II)I" } : Jvm.MethodName) ({ cls := "FormulaShapesModel", name := "told", desc := "(II)I" } : Jvm.MethodName)) ∈ lw_big := lw_bg (lw_m3 (List.mem_of_getElem? (l := tables_1_3) (i := 236) rfl)) rfl
theorem wd717 : (Jvm.Cond.code ({ cls := "FormulaShapesModel", name := "told", desc := "(II)I" } : Jvm.MethodName) prog_6_method_34_code (3 : Nat) (Option.some Jvm.ClassFile.FieldType.int)) ∈ lw_big := lw_bg (lw_m3 (List.mem_of_getElem? (l := tables_1_3) (i := 237) rfl)) rfl
theorem wd718 : (Jvm.Cond.methodLink "FormulaShapesLaw" (126 : Nat) ({ cls := "FormulaShapesModel", name := "part", desc := "(III)I" } : Jvm.MethodName)) ∈ lw_big := lw_bg (lw_m3 (List.mem_of_getElem? (l := tables_1_3) (i := 238) rfl)) rfl
theorem wd719 : (Jvm.Cond.instanceMethod ({ cls := "FormulaShapesModel", name := "part", desc := "(III)I" } : Jvm.MethodName)) ∈ lw_big := lw_bg (lw_m3 (List.mem_of_getElem? (l := tables_1_3) (i := 239) rfl)) rfl
theorem wd720 : (Jvm.Cond.selects "FormulaShapesModel" ({ cls := "FormulaShapesModel", name := "part", desc := "(III)I" } : Jvm.MethodName) ({ cls := "FormulaShapesModel", name := "part", desc := "(III)I" } : Jvm.MethodName)) ∈ lw_big := lw_bg (lw_m4 (List.mem_of_getElem? (l := tables_1_4) (i := 0) rfl)) rfl
theorem wd721 : (Jvm.Cond.code ({ cls := "FormulaShapesModel", name := "part", desc := "(III)I" } : Jvm.MethodName) prog_6_method_35_code (6 : Nat) (Option.some Jvm.ClassFile.FieldType.int)) ∈ lw_big := lw_bg (lw_m4 (List.mem_of_getElem? (l := tables_1_4) (i := 1) rfl)) rfl
theorem wd722 : (Jvm.Cond.methodLink "FormulaShapesLaw" (130 : Nat) ({ cls := "FormulaShapesModel", name := "boxes", desc := "()I" } : Jvm.MethodName)) ∈ lw_big := lw_bg (lw_m4 (List.mem_of_getElem? (l := tables_1_4) (i := 2) rfl)) rfl
theorem wd723 : (Jvm.Cond.instanceMethod ({ cls := "FormulaShapesModel", name := "boxes", desc := "()I" } : Jvm.MethodName)) ∈ lw_big := lw_bg (lw_m4 (List.mem_of_getElem? (l := tables_1_4) (i := 3) rfl)) rfl
theorem wd724 : (Jvm.Cond.selects "FormulaShapesModel" ({ cls := "FormulaShapesModel", name := "boxes", desc := "()I" } : Jvm.MethodName) ({ cls := "FormulaShapesModel", name := "boxes", desc := "()I" } : Jvm.MethodName)) ∈ lw_big := lw_bg (lw_m4 (List.mem_of_getElem? (l := tables_1_4) (i := 4) rfl)) rfl
theorem wd725 : (Jvm.Cond.code ({ cls := "FormulaShapesModel", name := "boxes", desc := "()I" } : Jvm.MethodName) prog_6_method_36_code (1 : Nat) (Option.some Jvm.ClassFile.FieldType.int)) ∈ lw_big := lw_bg (lw_m4 (List.mem_of_getElem? (l := tables_1_4) (i := 5) rfl)) rfl
theorem wd726 : (Jvm.Cond.arrayClass Jvm.ClassFile.FieldType.long) ∈ lw_big := lw_bg (lw_m4 (List.mem_of_getElem? (l := tables_1_4) (i := 6) rfl)) rfl
theorem wd727 : (Jvm.Cond.sameMethod "java/lang/Throwable" "java/lang/Throwable" "fillInStackTrace" "(I)Ljava/lang/Throwable;") ∈ lw_big := lw_bg (lw_m4 (List.mem_of_getElem? (l := tables_1_4) (i := 7) rfl)) rfl
theorem ws0 : Cond.selects "java/lang/Throwable" ⟨"java/lang/Throwable", "fillInStackTrace", "(I)Ljava/lang/Throwable;"⟩ ⟨"java/lang/Throwable", "fillInStackTrace", "(I)Ljava/lang/Throwable;"⟩ ∈ lw_big := lw_bs (List.mem_of_getElem? (i := 0) rfl) rfl
theorem ws1 : Cond.selects "FormulaShapes" ⟨"FormulaShapes", "needRoom", "(I)V"⟩ ⟨"FormulaShapes", "needRoom", "(I)V"⟩ ∈ lw_big := lw_bs (List.mem_of_getElem? (i := 1) rfl) rfl
theorem ws2 : Cond.selects "FormulaShapes" ⟨"FormulaShapes", "keep", "(LFormulaShapes$Box;)I"⟩ ⟨"FormulaShapes", "keep", "(LFormulaShapes$Box;)I"⟩ ∈ lw_big := lw_bs (List.mem_of_getElem? (i := 2) rfl) rfl
theorem ws3 : Cond.selects "FormulaShapes" ⟨"FormulaShapes", "needBox", "(I)V"⟩ ⟨"FormulaShapes", "needBox", "(I)V"⟩ ∈ lw_big := lw_bs (List.mem_of_getElem? (i := 3) rfl) rfl
theorem ws4 : Cond.selects "FormulaShapes" ⟨"FormulaShapes", "needBoxOrNone", "(I)V"⟩ ⟨"FormulaShapes", "needBoxOrNone", "(I)V"⟩ ∈ lw_big := lw_bs (List.mem_of_getElem? (i := 4) rfl) rfl
theorem ws5 : Cond.selects "FormulaShapes" ⟨"FormulaShapes", "extentOf", "(I)I"⟩ ⟨"FormulaShapes", "extentOf", "(I)I"⟩ ∈ lw_big := lw_bs (List.mem_of_getElem? (i := 5) rfl) rfl
theorem ws6 : Cond.selects "FormulaShapes" ⟨"FormulaShapes", "readySign", "(LFormulaShapes$Family;I)I"⟩ ⟨"FormulaShapes", "readySign", "(LFormulaShapes$Family;I)I"⟩ ∈ lw_big := lw_bs (List.mem_of_getElem? (i := 6) rfl) rfl
theorem ws7 : Cond.selects "FormulaShapes" ⟨"FormulaShapes", "keptSign", "(LFormulaShapes$Family;II)I"⟩ ⟨"FormulaShapes", "keptSign", "(LFormulaShapes$Family;II)I"⟩ ∈ lw_big := lw_bs (List.mem_of_getElem? (i := 7) rfl) rfl
theorem ws8 : Cond.selects "FormulaShapes" ⟨"FormulaShapes", "putTogether", "(LFormulaShapes$Family;I)LFormulaShapes$Box;"⟩ ⟨"FormulaShapes", "putTogether", "(LFormulaShapes$Family;I)LFormulaShapes$Box;"⟩ ∈ lw_big := lw_bs (List.mem_of_getElem? (i := 8) rfl) rfl
theorem ws9 : Cond.selects "FormulaShapes" ⟨"FormulaShapes", "pileUp", "(LFormulaShapes$Pile;II)V"⟩ ⟨"FormulaShapes", "pileUp", "(LFormulaShapes$Pile;II)V"⟩ ∈ lw_big := lw_bs (List.mem_of_getElem? (i := 9) rfl) rfl
theorem ws10 : Cond.selects "FormulaShapes" ⟨"FormulaShapes", "fractionWithLine", "(IIII)LFormulaShapes$Box;"⟩ ⟨"FormulaShapes", "fractionWithLine", "(IIII)LFormulaShapes$Box;"⟩ ∈ lw_big := lw_bs (List.mem_of_getElem? (i := 10) rfl) rfl
theorem ws11 : Cond.selects "FormulaShapes" ⟨"FormulaShapes", "valueOf", "(II)I"⟩ ⟨"FormulaShapes", "valueOf", "(II)I"⟩ ∈ lw_big := lw_bs (List.mem_of_getElem? (i := 11) rfl) rfl
theorem ws12 : Cond.selects "FormulaShapes" ⟨"FormulaShapes", "depthOf", "(I)I"⟩ ⟨"FormulaShapes", "depthOf", "(I)I"⟩ ∈ lw_big := lw_bs (List.mem_of_getElem? (i := 12) rfl) rfl
theorem ws13 : Cond.selects "FormulaShapes" ⟨"FormulaShapes", "heightOf", "(I)I"⟩ ⟨"FormulaShapes", "heightOf", "(I)I"⟩ ∈ lw_big := lw_bs (List.mem_of_getElem? (i := 13) rfl) rfl
theorem ws14 : Cond.selects "FormulaShapes" ⟨"FormulaShapes", "widthOf", "(I)I"⟩ ⟨"FormulaShapes", "widthOf", "(I)I"⟩ ∈ lw_big := lw_bs (List.mem_of_getElem? (i := 14) rfl) rfl
theorem ws15 : Cond.selects "FormulaShapes" ⟨"FormulaShapes", "fractionBare", "(III)LFormulaShapes$Box;"⟩ ⟨"FormulaShapes", "fractionBare", "(III)LFormulaShapes$Box;"⟩ ∈ lw_big := lw_bs (List.mem_of_getElem? (i := 15) rfl) rfl
theorem ws16 : Cond.selects "FormulaShapes" ⟨"FormulaShapes", "rootClearance", "(I)I"⟩ ⟨"FormulaShapes", "rootClearance", "(I)I"⟩ ∈ lw_big := lw_bs (List.mem_of_getElem? (i := 16) rfl) rfl
theorem ws17 : Cond.selects "FormulaShapes" ⟨"FormulaShapes", "rootShape", "(IIIZ)LFormulaShapes$Box;"⟩ ⟨"FormulaShapes", "rootShape", "(IIIZ)LFormulaShapes$Box;"⟩ ∈ lw_big := lw_bs (List.mem_of_getElem? (i := 17) rfl) rfl
theorem ws18 : Cond.selects "FormulaShapes" ⟨"FormulaShapes", "downAlone", "(III)I"⟩ ⟨"FormulaShapes", "downAlone", "(III)I"⟩ ∈ lw_big := lw_bs (List.mem_of_getElem? (i := 18) rfl) rfl
theorem ws19 : Cond.selects "FormulaShapes" ⟨"FormulaShapes", "fourFifths", "(I)I"⟩ ⟨"FormulaShapes", "fourFifths", "(I)I"⟩ ∈ lw_big := lw_bs (List.mem_of_getElem? (i := 19) rfl) rfl
theorem ws20 : Cond.selects "FormulaShapes" ⟨"FormulaShapes", "enclosing", "(I[I)LFormulaShapes$Box;"⟩ ⟨"FormulaShapes", "enclosing", "(I[I)LFormulaShapes$Box;"⟩ ∈ lw_big := lw_bs (List.mem_of_getElem? (i := 20) rfl) rfl
theorem ws21 : Cond.selects "FormulaShapes" ⟨"FormulaShapes", "upShift", "(IZII)I"⟩ ⟨"FormulaShapes", "upShift", "(IZII)I"⟩ ∈ lw_big := lw_bs (List.mem_of_getElem? (i := 21) rfl) rfl
theorem ws22 : Cond.selects "FormulaShapes" ⟨"FormulaShapes", "signsOnBothSides", "(IIIIII)LFormulaShapes$Box;"⟩ ⟨"FormulaShapes", "signsOnBothSides", "(IIIIII)LFormulaShapes$Box;"⟩ ∈ lw_big := lw_bs (List.mem_of_getElem? (i := 22) rfl) rfl
theorem ws23 : Cond.selects "FormulaShapes" ⟨"FormulaShapes", "limitsShape", "(IIII)LFormulaShapes$Box;"⟩ ⟨"FormulaShapes", "limitsShape", "(IIII)LFormulaShapes$Box;"⟩ ∈ lw_big := lw_bs (List.mem_of_getElem? (i := 23) rfl) rfl
theorem ws24 : Cond.selects "FormulaShapes" ⟨"FormulaShapes", "bracketsLeast", "(II)I"⟩ ⟨"FormulaShapes", "bracketsLeast", "(II)I"⟩ ∈ lw_big := lw_bs (List.mem_of_getElem? (i := 24) rfl) rfl
theorem ws25 : Cond.selects "FormulaShapes" ⟨"FormulaShapes", "onAxis", "(II)I"⟩ ⟨"FormulaShapes", "onAxis", "(II)I"⟩ ∈ lw_big := lw_bs (List.mem_of_getElem? (i := 25) rfl) rfl
theorem ws26 : Cond.selects "FormulaShapesModel" ⟨"FormulaShapesModel", "make", "(III)I"⟩ ⟨"FormulaShapesModel", "make", "(III)I"⟩ ∈ lw_big := lw_bs (List.mem_of_getElem? (i := 26) rfl) rfl
theorem ws27 : Cond.selects "FormulaShapesModel" ⟨"FormulaShapesModel", "isBox", "(I)Z"⟩ ⟨"FormulaShapesModel", "isBox", "(I)Z"⟩ ∈ lw_big := lw_bs (List.mem_of_getElem? (i := 27) rfl) rfl
theorem ws28 : Cond.selects "FormulaShapesModel" ⟨"FormulaShapesModel", "isBoxOrNone", "(I)Z"⟩ ⟨"FormulaShapesModel", "isBoxOrNone", "(I)Z"⟩ ∈ lw_big := lw_bs (List.mem_of_getElem? (i := 28) rfl) rfl
theorem ws29 : Cond.selects "FormulaShapesModel" ⟨"FormulaShapesModel", "plan", "(II)I"⟩ ⟨"FormulaShapesModel", "plan", "(II)I"⟩ ∈ lw_big := lw_bs (List.mem_of_getElem? (i := 29) rfl) rfl
theorem ws30 : Cond.selects "FormulaShapesModel" ⟨"FormulaShapesModel", "tall", "(I)I"⟩ ⟨"FormulaShapesModel", "tall", "(I)I"⟩ ∈ lw_big := lw_bs (List.mem_of_getElem? (i := 30) rfl) rfl
theorem ws31 : Cond.selects "FormulaShapesModel" ⟨"FormulaShapesModel", "signBy", "(II)I"⟩ ⟨"FormulaShapesModel", "signBy", "(II)I"⟩ ∈ lw_big := lw_bs (List.mem_of_getElem? (i := 31) rfl) rfl
theorem ws32 : Cond.selects "FormulaShapesModel" ⟨"FormulaShapesModel", "repeats", "(II)I"⟩ ⟨"FormulaShapesModel", "repeats", "(II)I"⟩ ∈ lw_big := lw_bs (List.mem_of_getElem? (i := 32) rfl) rfl
theorem ws33 : Cond.selects "FormulaShapesModel" ⟨"FormulaShapesModel", "pile", "(I)V"⟩ ⟨"FormulaShapesModel", "pile", "(I)V"⟩ ∈ lw_big := lw_bs (List.mem_of_getElem? (i := 33) rfl) rfl
theorem ws34 : Cond.selects "FormulaShapesModel" ⟨"FormulaShapesModel", "lay", "(III)V"⟩ ⟨"FormulaShapesModel", "lay", "(III)V"⟩ ∈ lw_big := lw_bs (List.mem_of_getElem? (i := 34) rfl) rfl
theorem ws35 : Cond.selects "FormulaShapesModel" ⟨"FormulaShapesModel", "use", "(I)V"⟩ ⟨"FormulaShapesModel", "use", "(I)V"⟩ ∈ lw_big := lw_bs (List.mem_of_getElem? (i := 35) rfl) rfl
theorem ws36 : Cond.selects "FormulaShapesModel" ⟨"FormulaShapesModel", "p", "(I)I"⟩ ⟨"FormulaShapesModel", "p", "(I)I"⟩ ∈ lw_big := lw_bs (List.mem_of_getElem? (i := 36) rfl) rfl
theorem ws37 : Cond.selects "FormulaShapesModel" ⟨"FormulaShapesModel", "reach", "()V"⟩ ⟨"FormulaShapesModel", "reach", "()V"⟩ ∈ lw_big := lw_bs (List.mem_of_getElem? (i := 37) rfl) rfl
theorem inX0 : ∀ w ∈ u_ws RX0 TX0 6, w ∈ lw_big := by
  show ∀ w ∈ ([(Cond.laysFinal "FormulaShapes$Box" "FormulaShapes$Box" "width" "I"), (Cond.laysFinal "FormulaShapes$Box" "FormulaShapes$Box" "height" "I"), (Cond.laysFinal "FormulaShapes$Box" "FormulaShapes$Box" "depth" "I"), (Cond.laysFinal "FormulaShapes$Box" "FormulaShapes$Box" "places" "[I"), (Cond.laysFinal "FormulaShapes$Box" "FormulaShapes$Box" "ruleWidth" "I"), (Cond.laysFinal "FormulaShapes$Box" "FormulaShapes$Box" "ruleHeight" "I")] : List Cond), w ∈ lw_big
  exact List.forall_mem_cons.mpr ⟨wd240, List.forall_mem_cons.mpr ⟨wd242, List.forall_mem_cons.mpr ⟨wd244, List.forall_mem_cons.mpr ⟨wd246, List.forall_mem_cons.mpr ⟨wd248, List.forall_mem_cons.mpr ⟨wd250, fun _ h => absurd h List.not_mem_nil⟩⟩⟩⟩⟩⟩
theorem inX1 : ∀ w ∈ u_ws RX1 TX1 6, w ∈ lw_big := by
  show ∀ w ∈ ([(Cond.laysFinal "FormulaShapes$Family" "FormulaShapes$Family" "members" "[I"), (Cond.lays "FormulaShapes$Family" "FormulaShapes$Family" "count" "I"), (Cond.lays "FormulaShapes$Family" "FormulaShapes$Family" "upper" "I"), (Cond.lays "FormulaShapes$Family" "FormulaShapes$Family" "middle" "I"), (Cond.lays "FormulaShapes$Family" "FormulaShapes$Family" "lower" "I"), (Cond.lays "FormulaShapes$Family" "FormulaShapes$Family" "repeated" "I")] : List Cond), w ∈ lw_big
  exact List.forall_mem_cons.mpr ⟨wd42, List.forall_mem_cons.mpr ⟨wd44, List.forall_mem_cons.mpr ⟨wd46, List.forall_mem_cons.mpr ⟨wd48, List.forall_mem_cons.mpr ⟨wd50, List.forall_mem_cons.mpr ⟨wd52, fun _ h => absurd h List.not_mem_nil⟩⟩⟩⟩⟩⟩
theorem inX2 : ∀ w ∈ u_ws RX2 TX2 4, w ∈ lw_big := by
  show ∀ w ∈ ([(Cond.laysFinal "FormulaShapes$Pile" "FormulaShapes$Pile" "places" "[I"), (Cond.lays "FormulaShapes$Pile" "FormulaShapes$Pile" "filled" "I"), (Cond.lays "FormulaShapes$Pile" "FormulaShapes$Pile" "top" "I"), (Cond.lays "FormulaShapes$Pile" "FormulaShapes$Pile" "width" "I")] : List Cond), w ∈ lw_big
  exact List.forall_mem_cons.mpr ⟨wd346, List.forall_mem_cons.mpr ⟨wd348, List.forall_mem_cons.mpr ⟨wd350, List.forall_mem_cons.mpr ⟨wd352, fun _ h => absurd h List.not_mem_nil⟩⟩⟩⟩
theorem inX3 : ∀ w ∈ u_ws RX3 TX3 6, w ∈ lw_big := by
  show ∀ w ∈ ([(Cond.laysFinal "FormulaShapes" "FormulaShapes" "made" "[LFormulaShapes$Box;"), (Cond.lays "FormulaShapes" "FormulaShapes" "count" "I"), (Cond.laysFinal "FormulaShapes" "FormulaShapes" "families" "[LFormulaShapes$Family;"), (Cond.laysFinal "FormulaShapes" "FormulaShapes" "parameters" "[I"), (Cond.lays "FormulaShapes" "FormulaShapes" "space" "I"), (Cond.lays "FormulaShapes" "FormulaShapes" "shortBy" "I")] : List Cond), w ∈ lw_big
  exact List.forall_mem_cons.mpr ⟨wd62, List.forall_mem_cons.mpr ⟨wd64, List.forall_mem_cons.mpr ⟨wd66, List.forall_mem_cons.mpr ⟨wd68, List.forall_mem_cons.mpr ⟨wd70, List.forall_mem_cons.mpr ⟨wd72, fun _ h => absurd h List.not_mem_nil⟩⟩⟩⟩⟩⟩
theorem inX4 : ∀ w ∈ u_ws RX4 TX4 21, w ∈ lw_big := by
  show ∀ w ∈ ([(Cond.lays "FormulaShapesModel" "FormulaShapesModel" "thrown" "I"), (Cond.laysFinal "FormulaShapesModel" "FormulaShapesModel" "parameters" "[I"), (Cond.lays "FormulaShapesModel" "FormulaShapesModel" "space" "I"), (Cond.lays "FormulaShapesModel" "FormulaShapesModel" "less" "I"), (Cond.lays "FormulaShapesModel" "FormulaShapesModel" "boxes" "I"), (Cond.laysFinal "FormulaShapesModel" "FormulaShapesModel" "widths" "[I"), (Cond.laysFinal "FormulaShapesModel" "FormulaShapesModel" "heights" "[I"), (Cond.laysFinal "FormulaShapesModel" "FormulaShapesModel" "depths" "[I"), (Cond.laysFinal "FormulaShapesModel" "FormulaShapesModel" "begins" "[I"), (Cond.laysFinal "FormulaShapesModel" "FormulaShapesModel" "many" "[I"), (Cond.laysFinal "FormulaShapesModel" "FormulaShapesModel" "ruleWidth" "[I"), (Cond.laysFinal "FormulaShapesModel" "FormulaShapesModel" "ruleHeight" "[I"), (Cond.lays "FormulaShapesModel" "FormulaShapesModel" "parts" "I"), (Cond.laysFinal "FormulaShapesModel" "FormulaShapesModel" "partBox" "[I"), (Cond.laysFinal "FormulaShapesModel" "FormulaShapesModel" "partX" "[I"), (Cond.laysFinal "FormulaShapesModel" "FormulaShapesModel" "partY" "[I"), (Cond.laysFinal "FormulaShapesModel" "FormulaShapesModel" "signs" "[I"), (Cond.laysFinal "FormulaShapesModel" "FormulaShapesModel" "signBox" "[I"), (Cond.laysFinal "FormulaShapesModel" "FormulaShapesModel" "hasPieces" "[Z"), (Cond.laysFinal "FormulaShapesModel" "FormulaShapesModel" "piece" "[I"), (Cond.lays "FormulaShapesModel" "FormulaShapesModel" "size" "I")] : List Cond), w ∈ lw_big
  exact List.forall_mem_cons.mpr ⟨wd545, List.forall_mem_cons.mpr ⟨wd547, List.forall_mem_cons.mpr ⟨wd549, List.forall_mem_cons.mpr ⟨wd551, List.forall_mem_cons.mpr ⟨wd553, List.forall_mem_cons.mpr ⟨wd555, List.forall_mem_cons.mpr ⟨wd557, List.forall_mem_cons.mpr ⟨wd559, List.forall_mem_cons.mpr ⟨wd561, List.forall_mem_cons.mpr ⟨wd563, List.forall_mem_cons.mpr ⟨wd565, List.forall_mem_cons.mpr ⟨wd567, List.forall_mem_cons.mpr ⟨wd569, List.forall_mem_cons.mpr ⟨wd571, List.forall_mem_cons.mpr ⟨wd573, List.forall_mem_cons.mpr ⟨wd575, List.forall_mem_cons.mpr ⟨wd577, List.forall_mem_cons.mpr ⟨wd579, List.forall_mem_cons.mpr ⟨wd581, List.forall_mem_cons.mpr ⟨wd583, List.forall_mem_cons.mpr ⟨wd585, fun _ h => absurd h List.not_mem_nil⟩⟩⟩⟩⟩⟩⟩⟩⟩⟩⟩⟩⟩⟩⟩⟩⟩⟩⟩⟩⟩
