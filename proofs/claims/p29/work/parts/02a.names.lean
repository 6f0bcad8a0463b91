def RX0 : String := "TwoFacedTiles$Board"
def TX0 : u_T := fun k => match k with
  | 0 => ("TwoFacedTiles$Board", "rows", "I", false)
  | 1 => ("TwoFacedTiles$Board", "columns", "I", false)
  | 2 => ("TwoFacedTiles$Board", "rule", "I", false)
  | 3 => ("TwoFacedTiles$Board", "tiles", "I", false)
  | 4 => ("TwoFacedTiles$Board", "fixed", "I", false)
  | 5 => ("TwoFacedTiles$Board", "placings", "[I", true)
  | 6 => ("TwoFacedTiles$Board", "places", "[I", true)
  | _ => ("TwoFacedTiles$Board", "looks", "[I", true)
def tyX0 : Nat → FieldType := fun k => match k with
  | 0 => .int
  | 1 => .int
  | 2 => .int
  | 3 => .int
  | 4 => .int
  | 5 => .array .int
  | 6 => .array .int
  | _ => .array .int
abbrev wsX00 : List Cond := u_ws RX0 TX0 8
theorem nmX0 : ∀ a, a < 8 → ∀ b, b < 8 → a ≠ b → (TX0 a).2.1 ≠ (TX0 b).2.1 := by decide +kernel
theorem tyX0_ok : ∀ k, k < 8 → parseFieldDescriptor (TX0 k).2.2.1 = some (tyX0 k) := by decide +kernel
abbrev cX0_init : ByteArray := prog_2_method_1_code
def yX0_init : MethodName := ⟨RX0, "<init>", "()V"⟩
abbrev cX0_copyFrom : ByteArray := prog_2_method_2_code
def yX0_copyFrom : MethodName := ⟨RX0, "copyFrom", "(LTwoFacedTiles$Board;)V"⟩
abbrev cX0_makeEmpty : ByteArray := prog_2_method_3_code
def yX0_makeEmpty : MethodName := ⟨RX0, "makeEmpty", "(II)V"⟩
abbrev cX0_cells : ByteArray := prog_2_method_4_code
def yX0_cells : MethodName := ⟨RX0, "cells", "()I"⟩
abbrev cX0_hasCell : ByteArray := prog_2_method_5_code
def yX0_hasCell : MethodName := ⟨RX0, "hasCell", "(I)Z"⟩
abbrev cX0_hasPlacing : ByteArray := prog_2_method_6_code
def yX0_hasPlacing : MethodName := ⟨RX0, "hasPlacing", "(I)Z"⟩
abbrev cX0_isEmpty : ByteArray := prog_2_method_7_code
def yX0_isEmpty : MethodName := ⟨RX0, "isEmpty", "(I)Z"⟩
abbrev cX0_isFixed : ByteArray := prog_2_method_8_code
def yX0_isFixed : MethodName := ⟨RX0, "isFixed", "(I)Z"⟩
abbrev cX0_isLaid : ByteArray := prog_2_method_9_code
def yX0_isLaid : MethodName := ⟨RX0, "isLaid", "(I)Z"⟩
abbrev cX0_lookIn : ByteArray := prog_2_method_10_code
def yX0_lookIn : MethodName := ⟨RX0, "lookIn", "(I)I"⟩
abbrev cX0_emptyCells : ByteArray := prog_2_method_11_code
def yX0_emptyCells : MethodName := ⟨RX0, "emptyCells", "()I"⟩
abbrev cX0_neighbor : ByteArray := prog_2_method_12_code
def yX0_neighbor : MethodName := ⟨RX0, "neighbor", "(II)I"⟩
abbrev cX0_put : ByteArray := prog_2_method_13_code
def yX0_put : MethodName := ⟨RX0, "put", "(II)V"⟩
abbrev cX0_remove : ByteArray := prog_2_method_14_code
def yX0_remove : MethodName := ⟨RX0, "remove", "(I)V"⟩
abbrev cX0_removeAllBut : ByteArray := prog_2_method_15_code
def yX0_removeAllBut : MethodName := ⟨RX0, "removeAllBut", "(I)I"⟩
abbrev cX0_mirror : ByteArray := prog_2_method_16_code
def yX0_mirror : MethodName := ⟨RX0, "mirror", "()V"⟩
abbrev cX0_swapTurnedOver : ByteArray := prog_2_method_17_code
def yX0_swapTurnedOver : MethodName := ⟨RX0, "swapTurnedOver", "(II)V"⟩
abbrev cX0_addFaces : ByteArray := prog_2_method_18_code
def yX0_addFaces : MethodName := ⟨RX0, "addFaces", "(II)V"⟩
abbrev cX0_makeWays : ByteArray := prog_2_method_19_code
def yX0_makeWays : MethodName := ⟨RX0, "makeWays", "(I)V"⟩
abbrev cX0_cutTiles : ByteArray := prog_2_method_20_code
def yX0_cutTiles : MethodName := ⟨RX0, "cutTiles", "(LTwoFacedTiles$Draws;)V"⟩
abbrev cX0_cutSide : ByteArray := prog_2_method_21_code
def yX0_cutSide : MethodName := ⟨RX0, "cutSide", "(IILTwoFacedTiles$Draws;)V"⟩
abbrev cX0_faceOf : ByteArray := prog_2_method_22_code
def yX0_faceOf : MethodName := ⟨RX0, "faceOf", "(II)I"⟩
abbrev cX0_lowestLike : ByteArray := prog_2_method_23_code
def yX0_lowestLike : MethodName := ⟨RX0, "lowestLike", "(I)I"⟩
abbrev cX0_pairsAlike : ByteArray := prog_2_method_24_code
def yX0_pairsAlike : MethodName := ⟨RX0, "pairsAlike", "(I)I"⟩
abbrev cX0_isAlike : ByteArray := prog_2_method_25_code
def yX0_isAlike : MethodName := ⟨RX0, "isAlike", "(III)Z"⟩
def RX1 : String := "TwoFacedTiles$Draws"
def TX1 : u_T := fun k => match k with
  | 0 => ("TwoFacedTiles$Draws", "seed", "I", false)
  | 1 => ("TwoFacedTiles$Draws", "colors", "I", false)
  | _ => ("TwoFacedTiles$Draws", "rest", "I", false)
def tyX1 : Nat → FieldType := fun k => match k with
  | 0 => .int
  | 1 => .int
  | _ => .int
abbrev wsX10 : List Cond := u_ws RX1 TX1 3
theorem nmX1 : ∀ a, a < 3 → ∀ b, b < 3 → a ≠ b → (TX1 a).2.1 ≠ (TX1 b).2.1 := by decide +kernel
theorem tyX1_ok : ∀ k, k < 3 → parseFieldDescriptor (TX1 k).2.2.1 = some (tyX1 k) := by decide +kernel
abbrev cX1_init : ByteArray := prog_3_method_1_code
def yX1_init : MethodName := ⟨RX1, "<init>", "()V"⟩
abbrev cX1_start : ByteArray := prog_3_method_2_code
def yX1_start : MethodName := ⟨RX1, "start", "(II)V"⟩
abbrev cX1_next : ByteArray := prog_3_method_3_code
def yX1_next : MethodName := ⟨RX1, "next", "()I"⟩
def RX2 : String := "TwoFacedTiles$History"
def TX2 : u_T := fun k => match k with
  | 0 => ("TwoFacedTiles$History", "states", "[LTwoFacedTiles$Board;", true)
  | 1 => ("TwoFacedTiles$History", "oldest", "I", false)
  | _ => ("TwoFacedTiles$History", "kept", "I", false)
def tyX2 : Nat → FieldType := fun k => match k with
  | 0 => .array (.object "TwoFacedTiles$Board")
  | 1 => .int
  | _ => .int
abbrev wsX20 : List Cond := u_ws RX2 TX2 3
theorem nmX2 : ∀ a, a < 3 → ∀ b, b < 3 → a ≠ b → (TX2 a).2.1 ≠ (TX2 b).2.1 := by decide +kernel
theorem tyX2_ok : ∀ k, k < 3 → parseFieldDescriptor (TX2 k).2.2.1 = some (tyX2 k) := by decide +kernel
abbrev cX2_init : ByteArray := prog_4_method_1_code
def yX2_init : MethodName := ⟨RX2, "<init>", "()V"⟩
abbrev cX2_save : ByteArray := prog_4_method_2_code
def yX2_save : MethodName := ⟨RX2, "save", "(LTwoFacedTiles$Board;)V"⟩
abbrev cX2_restore : ByteArray := prog_4_method_3_code
def yX2_restore : MethodName := ⟨RX2, "restore", "(LTwoFacedTiles$Board;)V"⟩
def RX3 : String := "TwoFacedTiles$Needs"
def TX3 : u_T := fun k => match k with
  | 0 => ("TwoFacedTiles$Needs", "mustBeZero", "I", false)
  | 1 => ("TwoFacedTiles$Needs", "mustAgree", "I", false)
  | 2 => ("TwoFacedTiles$Needs", "wanted", "I", false)
  | _ => ("TwoFacedTiles$Needs", "forbiddenZero", "Z", false)
def tyX3 : Nat → FieldType := fun k => match k with
  | 0 => .int
  | 1 => .int
  | 2 => .int
  | _ => .boolean
abbrev wsX30 : List Cond := u_ws RX3 TX3 4
theorem nmX3 : ∀ a, a < 4 → ∀ b, b < 4 → a ≠ b → (TX3 a).2.1 ≠ (TX3 b).2.1 := by decide +kernel
theorem tyX3_ok : ∀ k, k < 4 → parseFieldDescriptor (TX3 k).2.2.1 = some (tyX3 k) := by decide +kernel
abbrev cX3_init : ByteArray := prog_5_method_1_code
def yX3_init : MethodName := ⟨RX3, "<init>", "()V"⟩
abbrev cX3_read : ByteArray := prog_5_method_2_code
def yX3_read : MethodName := ⟨RX3, "read", "(LTwoFacedTiles$Board;I)V"⟩
abbrev cX3_readNeighbor : ByteArray := prog_5_method_3_code
def yX3_readNeighbor : MethodName := ⟨RX3, "readNeighbor", "(III)V"⟩
abbrev cX3_ruledColors : ByteArray := prog_5_method_4_code
def yX3_ruledColors : MethodName := ⟨RX3, "ruledColors", "(I)I"⟩
abbrev cX3_reasonAgainst : ByteArray := prog_5_method_5_code
def yX3_reasonAgainst : MethodName := ⟨RX3, "reasonAgainst", "(I)I"⟩
def RX4 : String := "TwoFacedTiles$Search"
def TX4 : u_T := fun k => match k with
  | 0 => ("TwoFacedTiles$Search", "trial", "LTwoFacedTiles$Board;", true)
  | 1 => ("TwoFacedTiles$Search", "found", "I", false)
  | 2 => ("TwoFacedTiles$Search", "needs", "[LTwoFacedTiles$Needs;", true)
  | 3 => ("TwoFacedTiles$Search", "most", "I", false)
  | 4 => ("TwoFacedTiles$Search", "steps", "I", false)
  | 5 => ("TwoFacedTiles$Search", "tooManySteps", "Z", false)
  | _ => ("TwoFacedTiles$Search", "over", "Z", false)
def tyX4 : Nat → FieldType := fun k => match k with
  | 0 => .object "TwoFacedTiles$Board"
  | 1 => .int
  | 2 => .array (.object "TwoFacedTiles$Needs")
  | 3 => .int
  | 4 => .int
  | 5 => .boolean
  | _ => .boolean
abbrev wsX40 : List Cond := u_ws RX4 TX4 7
theorem nmX4 : ∀ a, a < 7 → ∀ b, b < 7 → a ≠ b → (TX4 a).2.1 ≠ (TX4 b).2.1 := by decide +kernel
theorem tyX4_ok : ∀ k, k < 7 → parseFieldDescriptor (TX4 k).2.2.1 = some (tyX4 k) := by decide +kernel
abbrev cX4_init : ByteArray := prog_6_method_1_code
def yX4_init : MethodName := ⟨RX4, "<init>", "()V"⟩
abbrev cX4_run : ByteArray := prog_6_method_2_code
def yX4_run : MethodName := ⟨RX4, "run", "(LTwoFacedTiles$Board;I)V"⟩
abbrev cX4_result : ByteArray := prog_6_method_4_code
def yX4_result : MethodName := ⟨RX4, "result", "(I)I"⟩
abbrev cX4_runTrial : ByteArray := prog_6_method_5_code
def yX4_runTrial : MethodName := ⟨RX4, "runTrial", "(I)V"⟩
abbrev cX4_fillFrom : ByteArray := prog_6_method_6_code
def yX4_fillFrom : MethodName := ⟨RX4, "fillFrom", "(I)V"⟩
abbrev cX4_tryPlacing : ByteArray := prog_6_method_7_code
def yX4_tryPlacing : MethodName := ⟨RX4, "tryPlacing", "(II)V"⟩
def RX5 : String := "TwoFacedTiles$Text"
def TX5 : u_T := fun k => match k with
  | 0 => ("TwoFacedTiles$Text", "codes", "[I", true)
  | _ => ("TwoFacedTiles$Text", "length", "I", false)
def tyX5 : Nat → FieldType := fun k => match k with
  | 0 => .array .int
  | _ => .int
abbrev wsX50 : List Cond := u_ws RX5 TX5 2
theorem nmX5 : ∀ a, a < 2 → ∀ b, b < 2 → a ≠ b → (TX5 a).2.1 ≠ (TX5 b).2.1 := by decide +kernel
theorem tyX5_ok : ∀ k, k < 2 → parseFieldDescriptor (TX5 k).2.2.1 = some (tyX5 k) := by decide +kernel
abbrev cX5_init : ByteArray := prog_7_method_1_code
def yX5_init : MethodName := ⟨RX5, "<init>", "()V"⟩
def RX6 : String := "TwoFacedTiles"
def TX6 : u_T := fun k => match k with
  | 0 => ("TwoFacedTiles", "board", "LTwoFacedTiles$Board;", true)
  | 1 => ("TwoFacedTiles", "history", "LTwoFacedTiles$History;", true)
  | 2 => ("TwoFacedTiles", "text", "LTwoFacedTiles$Text;", true)
  | 3 => ("TwoFacedTiles", "needs", "LTwoFacedTiles$Needs;", true)
  | 4 => ("TwoFacedTiles", "search", "LTwoFacedTiles$Search;", true)
  | _ => ("TwoFacedTiles", "draws", "LTwoFacedTiles$Draws;", true)
def tyX6 : Nat → FieldType := fun k => match k with
  | 0 => .object "TwoFacedTiles$Board"
  | 1 => .object "TwoFacedTiles$History"
  | 2 => .object "TwoFacedTiles$Text"
  | 3 => .object "TwoFacedTiles$Needs"
  | 4 => .object "TwoFacedTiles$Search"
  | _ => .object "TwoFacedTiles$Draws"
abbrev wsX60 : List Cond := u_ws RX6 TX6 6
theorem nmX6 : ∀ a, a < 6 → ∀ b, b < 6 → a ≠ b → (TX6 a).2.1 ≠ (TX6 b).2.1 := by decide +kernel
theorem tyX6_ok : ∀ k, k < 6 → parseFieldDescriptor (TX6 k).2.2.1 = some (tyX6 k) := by decide +kernel
abbrev cX6_init : ByteArray := prog_1_method_1_code
def yX6_init : MethodName := ⟨RX6, "<init>", "()V"⟩
abbrev cX6_begin : ByteArray := prog_1_method_2_code
def yX6_begin : MethodName := ⟨RX6, "begin", "(II)I"⟩
abbrev cX6_addTile : ByteArray := prog_1_method_3_code
def yX6_addTile : MethodName := ⟨RX6, "addTile", "(II)I"⟩
abbrev cX6_dropTile : ByteArray := prog_1_method_4_code
def yX6_dropTile : MethodName := ⟨RX6, "dropTile", "()I"⟩
abbrev cX6_setRule : ByteArray := prog_1_method_5_code
def yX6_setRule : MethodName := ⟨RX6, "setRule", "(I)I"⟩
abbrev cX6_cut : ByteArray := prog_1_method_6_code
def yX6_cut : MethodName := ⟨RX6, "cut", "(II)I"⟩
abbrev cX6_lay : ByteArray := prog_1_method_7_code
def yX6_lay : MethodName := ⟨RX6, "lay", "(II)I"⟩
abbrev cX6_take : ByteArray := prog_1_method_8_code
def yX6_take : MethodName := ⟨RX6, "take", "(I)I"⟩
abbrev cX6_fix : ByteArray := prog_1_method_9_code
def yX6_fix : MethodName := ⟨RX6, "fix", "(I)I"⟩
abbrev cX6_clear : ByteArray := prog_1_method_10_code
def yX6_clear : MethodName := ⟨RX6, "clear", "()I"⟩
abbrev cX6_turnOver : ByteArray := prog_1_method_11_code
def yX6_turnOver : MethodName := ⟨RX6, "turnOver", "()I"⟩
abbrev cX6_solve : ByteArray := prog_1_method_12_code
def yX6_solve : MethodName := ⟨RX6, "solve", "()I"⟩
abbrev cX6_undo : ByteArray := prog_1_method_17_code
def yX6_undo : MethodName := ⟨RX6, "undo", "()I"⟩
abbrev cX6_cell : ByteArray := prog_1_method_18_code
def yX6_cell : MethodName := ⟨RX6, "cell", "(II)I"⟩
abbrev cX6_color : ByteArray := prog_1_method_19_code
def yX6_color : MethodName := ⟨RX6, "color", "(IIZ)I"⟩
abbrev cX6_tile : ByteArray := prog_1_method_20_code
def yX6_tile : MethodName := ⟨RX6, "tile", "(II)I"⟩
abbrev cX6_count : ByteArray := prog_1_method_21_code
def yX6_count : MethodName := ⟨RX6, "count", "(I)I"⟩
abbrev cX6_layings : ByteArray := prog_1_method_22_code
def yX6_layings : MethodName := ⟨RX6, "layings", "(II)I"⟩
abbrev cX6_hint : ByteArray := prog_1_method_23_code
def yX6_hint : MethodName := ⟨RX6, "hint", "()I"⟩
abbrev cX6_why : ByteArray := prog_1_method_25_code
def yX6_why : MethodName := ⟨RX6, "why", "(II)I"⟩
abbrev cX6_fitting : ByteArray := prog_1_method_26_code
def yX6_fitting : MethodName := ⟨RX6, "fitting", "()D"⟩
abbrev cX6_requireCell : ByteArray := prog_1_method_28_code
def yX6_requireCell : MethodName := ⟨RX6, "requireCell", "(I)V"⟩
abbrev cX6_requirePlacing : ByteArray := prog_1_method_29_code
def yX6_requirePlacing : MethodName := ⟨RX6, "requirePlacing", "(II)V"⟩
abbrev cX6_reason : ByteArray := prog_1_method_30_code
def yX6_reason : MethodName := ⟨RX6, "reason", "(II)I"⟩
abbrev cX6_cellProperty : ByteArray := prog_1_method_31_code
def yX6_cellProperty : MethodName := ⟨RX6, "cellProperty", "(II)I"⟩
abbrev cX6_possibleCount : ByteArray := prog_1_method_32_code
def yX6_possibleCount : MethodName := ⟨RX6, "possibleCount", "(I)I"⟩
abbrev cX6_firstPossible : ByteArray := prog_1_method_33_code
def yX6_firstPossible : MethodName := ⟨RX6, "firstPossible", "(I)I"⟩
abbrev cX6_meetsNeeds : ByteArray := prog_1_method_34_code
def yX6_meetsNeeds : MethodName := ⟨RX6, "meetsNeeds", "(I)Z"⟩
abbrev cX6_colorAt : ByteArray := prog_1_method_35_code
def yX6_colorAt : MethodName := ⟨RX6, "colorAt", "(IIZ)I"⟩
abbrev cX6_tileProperty : ByteArray := prog_1_method_36_code
def yX6_tileProperty : MethodName := ⟨RX6, "tileProperty", "(II)I"⟩
abbrev cX6_number : ByteArray := prog_1_method_37_code
def yX6_number : MethodName := ⟨RX6, "number", "(I)I"⟩
abbrev cX6_misfits : ByteArray := prog_1_method_38_code
def yX6_misfits : MethodName := ⟨RX6, "misfits", "()I"⟩
abbrev cX6_bestStep : ByteArray := prog_1_method_39_code
def yX6_bestStep : MethodName := ⟨RX6, "bestStep", "()I"⟩
abbrev cX6_fittingPart : ByteArray := prog_1_method_40_code
def yX6_fittingPart : MethodName := ⟨RX6, "fittingPart", "()D"⟩
abbrev cX6_colorsAt : ByteArray := prog_1_method_44_code
def yX6_colorsAt : MethodName := ⟨RX6, "colorsAt", "(II)I"⟩
abbrev cX6_opposite : ByteArray := prog_1_method_45_code
def yX6_opposite : MethodName := ⟨RX6, "opposite", "(I)I"⟩
abbrev cX6_seenFromBehind : ByteArray := prog_1_method_46_code
def yX6_seenFromBehind : MethodName := ⟨RX6, "seenFromBehind", "(I)I"⟩
abbrev cX6_turned : ByteArray := prog_1_method_47_code
def yX6_turned : MethodName := ⟨RX6, "turned", "(I)I"⟩
abbrev cX6_turnedOver : ByteArray := prog_1_method_48_code
def yX6_turnedOver : MethodName := ⟨RX6, "turnedOver", "(I)I"⟩
abbrev cX6_lookOfFaces : ByteArray := prog_1_method_49_code
def yX6_lookOfFaces : MethodName := ⟨RX6, "lookOfFaces", "(II)I"⟩
abbrev cX6_digit : ByteArray := prog_1_method_50_code
def yX6_digit : MethodName := ⟨RX6, "digit", "(II)I"⟩
abbrev cX6_placingTurnedOver : ByteArray := prog_1_method_51_code
def yX6_placingTurnedOver : MethodName := ⟨RX6, "placingTurnedOver", "(I)I"⟩
def RX7 : String := "TwoFacedTilesModel"
def TX7 : u_T := fun k => match k with
  | _ => ("", "", "", false)
def tyX7 : Nat → FieldType := fun k => match k with
  | _ => .int
abbrev wsX70 : List Cond := u_ws RX7 TX7 0
theorem nmX7 : ∀ a, a < 0 → ∀ b, b < 0 → a ≠ b → (TX7 a).2.1 ≠ (TX7 b).2.1 := by decide +kernel
theorem tyX7_ok : ∀ k, k < 0 → parseFieldDescriptor (TX7 k).2.2.1 = some (tyX7 k) := by decide +kernel
def RJ6 : String := "java/lang/Integer"
def TJ6 : u_T := fun k => match k with
  | _ => ("", "", "", false)
def tyJ6 : Nat → FieldType := fun k => match k with
  | _ => .int
abbrev wsJ60 : List Cond := u_ws RJ6 TJ6 0
theorem nmJ6 : ∀ a, a < 0 → ∀ b, b < 0 → a ≠ b → (TJ6 a).2.1 ≠ (TJ6 b).2.1 := by decide +kernel
theorem tyJ6_ok : ∀ k, k < 0 → parseFieldDescriptor (TJ6 k).2.2.1 = some (tyJ6 k) := by decide +kernel
abbrev cJ6_bitCount_0f7a4 : ByteArray := prog_14_method_49_code
def yJ6_bitCount_0f7a4 : MethodName := ⟨RJ6, "bitCount", "(I)I"⟩
def RJ0 : String := "java/lang/String"
def TJ0 : u_T := fun k => match k with
  | _ => ("", "", "", false)
def tyJ0 : Nat → FieldType := fun k => match k with
  | _ => .int
abbrev wsJ00 : List Cond := u_ws RJ0 TJ0 0
theorem nmJ0 : ∀ a, a < 0 → ∀ b, b < 0 → a ≠ b → (TJ0 a).2.1 ≠ (TJ0 b).2.1 := by decide +kernel
theorem tyJ0_ok : ∀ k, k < 0 → parseFieldDescriptor (TJ0 k).2.2.1 = some (tyJ0 k) := by decide +kernel
def RJ10 : String := "java/lang/System"
def TJ10 : u_T := fun k => match k with
  | _ => ("", "", "", false)
def tyJ10 : Nat → FieldType := fun k => match k with
  | _ => .int
abbrev wsJ100 : List Cond := u_ws RJ10 TJ10 0
theorem nmJ10 : ∀ a, a < 0 → ∀ b, b < 0 → a ≠ b → (TJ10 a).2.1 ≠ (TJ10 b).2.1 := by decide +kernel
theorem tyJ10_ok : ∀ k, k < 0 → parseFieldDescriptor (TJ10 k).2.2.1 = some (tyJ10 k) := by decide +kernel
def RL : String := "TwoFacedTilesLaw"
abbrev cL_cell : ByteArray := method_2_code
def yL_cell : MethodName := ⟨RL, "cell", "([II)I"⟩
abbrev cL_at : ByteArray := method_3_code
def yL_at : MethodName := ⟨RL, "at", "(II)I"⟩
abbrev cL_color : ByteArray := method_4_code
def yL_color : MethodName := ⟨RL, "color", "(IIZ[I)I"⟩
abbrev cL_beyond : ByteArray := method_5_code
def yL_beyond : MethodName := ⟨RL, "beyond", "(II[I)I"⟩
abbrev cL_fits : ByteArray := method_6_code
def yL_fits : MethodName := ⟨RL, "fits", "(II[I[I)I"⟩
abbrev cL_where : ByteArray := method_7_code
def yL_where : MethodName := ⟨RL, "where", "(I[I)I"⟩
abbrev cL_why : ByteArray := method_8_code
def yL_why : MethodName := ⟨RL, "why", "(II[I[I)I"⟩
abbrev cL_search : ByteArray := method_9_code
def yL_search : MethodName := ⟨RL, "search", "(I[I[I[I)V"⟩
abbrev cL_told : ByteArray := method_10_code
def yL_told : MethodName := ⟨RL, "told", "(LTwoFacedTiles;I[I[I)Z"⟩
abbrev cL_cut : ByteArray := method_11_code
def yL_cut : MethodName := ⟨RL, "cut", "(II[I[I)V"⟩
abbrev cL_act : ByteArray := method_12_code
def yL_act : MethodName := ⟨RL, "act", "(LTwoFacedTiles;III[I[I)Z"⟩
abbrev cL_law : ByteArray := code
def yL_law : MethodName := ⟨RL, "law", "([I)Z"⟩
def wsX0_init : List Cond := .code yX0_init cX0_init 1 none :: ([.methodLink RX0 3 objectInit, .instanceMethod objectInit, .code objectInit ⟨#[0xb1]⟩ 1 none, .fieldLink RX0 9 "TwoFacedTiles$Board" "rows" "I", .fieldLink RX0 15 "TwoFacedTiles$Board" "columns" "I", .fieldLink RX0 18 "TwoFacedTiles$Board" "rule" "I", .fieldLink RX0 21 "TwoFacedTiles$Board" "tiles" "I", .fieldLink RX0 24 "TwoFacedTiles$Board" "fixed" "I", .arrayClass .int, .fieldLink RX0 27 "TwoFacedTiles$Board" "placings" "[I", .fieldLink RX0 31 "TwoFacedTiles$Board" "places" "[I", .fieldLink RX0 34 "TwoFacedTiles$Board" "looks" "[I"] ++ wsX00)
def wsX0_copyFrom : List Cond := .code yX0_copyFrom cX0_copyFrom 2 none :: ([.fieldLink RX0 9 "TwoFacedTiles$Board" "rows" "I", .fieldLink RX0 15 "TwoFacedTiles$Board" "columns" "I", .fieldLink RX0 18 "TwoFacedTiles$Board" "rule" "I", .fieldLink RX0 21 "TwoFacedTiles$Board" "tiles" "I", .fieldLink RX0 24 "TwoFacedTiles$Board" "fixed" "I", .fieldLink RX0 27 "TwoFacedTiles$Board" "placings" "[I", .methodLink RX0 37 arraycopyName, .native arraycopyName, .static arraycopyName, .initialized "java/lang/System", .fieldLink RX0 31 "TwoFacedTiles$Board" "places" "[I", .fieldLink RX0 34 "TwoFacedTiles$Board" "looks" "[I"] ++ wsX00)
def wsX0_makeEmpty : List Cond := .code yX0_makeEmpty cX0_makeEmpty 4 none :: ([.fieldLink RX0 9 "TwoFacedTiles$Board" "rows" "I", .fieldLink RX0 15 "TwoFacedTiles$Board" "columns" "I", .fieldLink RX0 24 "TwoFacedTiles$Board" "fixed" "I", .fieldLink RX0 27 "TwoFacedTiles$Board" "placings" "[I", .fieldLink RX0 31 "TwoFacedTiles$Board" "places" "[I"] ++ wsX00)
def wsX0_cells : List Cond := .code yX0_cells cX0_cells 1 (some .int) :: ([.fieldLink RX0 9 "TwoFacedTiles$Board" "rows" "I", .fieldLink RX0 15 "TwoFacedTiles$Board" "columns" "I"] ++ wsX00)
def wsX0_hasCell : List Cond := .code yX0_hasCell cX0_hasCell 2 (some .boolean) :: ([.methodLink RX0 43 yX0_cells, .instanceMethod yX0_cells, .selects RX0 yX0_cells yX0_cells, .initialized RX0, .code yX0_cells cX0_cells 1 (some .int), .fieldLink RX0 9 "TwoFacedTiles$Board" "rows" "I", .fieldLink RX0 15 "TwoFacedTiles$Board" "columns" "I"] ++ wsX00)
def wsX0_hasPlacing : List Cond := .code yX0_hasPlacing cX0_hasPlacing 2 (some .boolean) :: ([.fieldLink RX0 21 "TwoFacedTiles$Board" "tiles" "I"] ++ wsX00)
def wsX0_isEmpty : List Cond := .code yX0_isEmpty cX0_isEmpty 2 (some .boolean) :: ([.fieldLink RX0 27 "TwoFacedTiles$Board" "placings" "[I"] ++ wsX00)
def wsX0_isFixed : List Cond := .code yX0_isFixed cX0_isFixed 2 (some .boolean) :: ([.fieldLink RX0 24 "TwoFacedTiles$Board" "fixed" "I"] ++ wsX00)
def wsX0_isLaid : List Cond := .code yX0_isLaid cX0_isLaid 2 (some .boolean) :: ([.fieldLink RX0 31 "TwoFacedTiles$Board" "places" "[I"] ++ wsX00)
def wsX0_lookIn : List Cond := .code yX0_lookIn cX0_lookIn 2 (some .int) :: ([.fieldLink RX0 34 "TwoFacedTiles$Board" "looks" "[I", .fieldLink RX0 27 "TwoFacedTiles$Board" "placings" "[I"] ++ wsX00)
def wsX0_emptyCells : List Cond := .code yX0_emptyCells cX0_emptyCells 3 (some .int) :: ([.methodLink RX0 43 yX0_cells, .instanceMethod yX0_cells, .selects RX0 yX0_cells yX0_cells, .initialized RX0, .code yX0_cells cX0_cells 1 (some .int), .fieldLink RX0 9 "TwoFacedTiles$Board" "rows" "I", .fieldLink RX0 15 "TwoFacedTiles$Board" "columns" "I", .methodLink RX0 47 yX0_isEmpty, .instanceMethod yX0_isEmpty, .selects RX0 yX0_isEmpty yX0_isEmpty, .code yX0_isEmpty cX0_isEmpty 2 (some .boolean), .fieldLink RX0 27 "TwoFacedTiles$Board" "placings" "[I"] ++ wsX00)
def wsX0_neighbor : List Cond := .code yX0_neighbor cX0_neighbor 4 (some .int) :: ([.fieldLink RX0 15 "TwoFacedTiles$Board" "columns" "I", .methodLink RX0 43 yX0_cells, .instanceMethod yX0_cells, .selects RX0 yX0_cells yX0_cells, .initialized RX0, .code yX0_cells cX0_cells 1 (some .int), .fieldLink RX0 9 "TwoFacedTiles$Board" "rows" "I"] ++ wsX00)
def wsX0_put : List Cond := .code yX0_put cX0_put 3 none :: ([.fieldLink RX0 27 "TwoFacedTiles$Board" "placings" "[I", .fieldLink RX0 31 "TwoFacedTiles$Board" "places" "[I"] ++ wsX00)
def wsX0_remove : List Cond := .code yX0_remove cX0_remove 2 none :: ([.fieldLink RX0 31 "TwoFacedTiles$Board" "places" "[I", .fieldLink RX0 27 "TwoFacedTiles$Board" "placings" "[I"] ++ wsX00)
def wsX0_removeAllBut : List Cond := .code yX0_removeAllBut cX0_removeAllBut 4 (some .int) :: ([.methodLink RX0 43 yX0_cells, .instanceMethod yX0_cells, .selects RX0 yX0_cells yX0_cells, .initialized RX0, .code yX0_cells cX0_cells 1 (some .int), .fieldLink RX0 9 "TwoFacedTiles$Board" "rows" "I", .fieldLink RX0 15 "TwoFacedTiles$Board" "columns" "I", .methodLink RX0 47 yX0_isEmpty, .instanceMethod yX0_isEmpty, .selects RX0 yX0_isEmpty yX0_isEmpty, .code yX0_isEmpty cX0_isEmpty 2 (some .boolean), .fieldLink RX0 27 "TwoFacedTiles$Board" "placings" "[I", .methodLink RX0 51 yX0_remove, .instanceMethod yX0_remove, .selects RX0 yX0_remove yX0_remove, .code yX0_remove cX0_remove 2 none, .fieldLink RX0 31 "TwoFacedTiles$Board" "places" "[I"] ++ wsX00)
def wsX6_placingTurnedOver : List Cond := .code yX6_placingTurnedOver cX6_placingTurnedOver 4 (some .int) :: ([])
def wsX0_swapTurnedOver : List Cond := .code yX0_swapTurnedOver cX0_swapTurnedOver 4 none :: ([.fieldLink RX0 27 "TwoFacedTiles$Board" "placings" "[I", .static yX6_placingTurnedOver, .initialized RX6, .code yX6_placingTurnedOver cX6_placingTurnedOver 4 (some .int)] ++ wsX00)
def wsX0_mirror : List Cond := .code yX0_mirror cX0_mirror 6 none :: ([.fieldLink RX0 24 "TwoFacedTiles$Board" "fixed" "I", .fieldLink RX0 9 "TwoFacedTiles$Board" "rows" "I", .fieldLink RX0 15 "TwoFacedTiles$Board" "columns" "I", .fieldLink RX0 31 "TwoFacedTiles$Board" "places" "[I", .fieldLink RX0 27 "TwoFacedTiles$Board" "placings" "[I", .methodLink RX0 55 yX0_swapTurnedOver, .instanceMethod yX0_swapTurnedOver, .selects RX0 yX0_swapTurnedOver yX0_swapTurnedOver, .initialized RX0, .code yX0_swapTurnedOver cX0_swapTurnedOver 4 none, .static yX6_placingTurnedOver, .initialized RX6, .code yX6_placingTurnedOver cX6_placingTurnedOver 4 (some .int), .methodLink RX0 43 yX0_cells, .instanceMethod yX0_cells, .selects RX0 yX0_cells yX0_cells, .code yX0_cells cX0_cells 1 (some .int), .methodLink RX0 47 yX0_isEmpty, .instanceMethod yX0_isEmpty, .selects RX0 yX0_isEmpty yX0_isEmpty, .code yX0_isEmpty cX0_isEmpty 2 (some .boolean)] ++ wsX00)
def wsX6_digit : List Cond := .code yX6_digit cX6_digit 4 (some .int) :: ([])
def wsX6_seenFromBehind : List Cond := .code yX6_seenFromBehind cX6_seenFromBehind 1 (some .int) :: ([])
def wsX6_lookOfFaces : List Cond := .code yX6_lookOfFaces cX6_lookOfFaces 6 (some .int) :: ([.methodLink RX6 325 yX6_digit, .static yX6_digit, .initialized RX6, .code yX6_digit cX6_digit 4 (some .int), .methodLink RX6 322 yX6_seenFromBehind, .static yX6_seenFromBehind, .code yX6_seenFromBehind cX6_seenFromBehind 1 (some .int)])
def wsX6_colorsAt : List Cond := .code yX6_colorsAt cX6_colorsAt 2 (some .int) :: ([.constant RX6 321 (983055)])
def wsX6_turnedOver : List Cond := .code yX6_turnedOver cX6_turnedOver 5 (some .int) :: ([.methodLink RX6 296 yX6_colorsAt, .static yX6_colorsAt, .initialized RX6, .code yX6_colorsAt cX6_colorsAt 2 (some .int), .constant RX6 321 (983055), .methodLink RX6 322 yX6_seenFromBehind, .static yX6_seenFromBehind, .code yX6_seenFromBehind cX6_seenFromBehind 1 (some .int)])
def wsX6_turned : List Cond := .code yX6_turned cX6_turned 3 (some .int) :: ([.methodLink RX6 296 yX6_colorsAt, .static yX6_colorsAt, .initialized RX6, .code yX6_colorsAt cX6_colorsAt 2 (some .int), .constant RX6 321 (983055)])
def wsX0_makeWays : List Cond := .code yX0_makeWays cX0_makeWays 4 none :: ([.fieldLink RX0 34 "TwoFacedTiles$Board" "looks" "[I", .static yX6_turnedOver, .initialized RX6, .code yX6_turnedOver cX6_turnedOver 5 (some .int), .methodLink RX6 296 yX6_colorsAt, .static yX6_colorsAt, .code yX6_colorsAt cX6_colorsAt 2 (some .int), .constant RX6 321 (983055), .methodLink RX6 322 yX6_seenFromBehind, .static yX6_seenFromBehind, .code yX6_seenFromBehind cX6_seenFromBehind 1 (some .int), .static yX6_turned, .code yX6_turned cX6_turned 3 (some .int)] ++ wsX00)
def wsX0_addFaces : List Cond := .code yX0_addFaces cX0_addFaces 3 none :: ([.fieldLink RX0 34 "TwoFacedTiles$Board" "looks" "[I", .fieldLink RX0 21 "TwoFacedTiles$Board" "tiles" "I", .static yX6_lookOfFaces, .initialized RX6, .code yX6_lookOfFaces cX6_lookOfFaces 6 (some .int), .methodLink RX6 325 yX6_digit, .static yX6_digit, .code yX6_digit cX6_digit 4 (some .int), .methodLink RX6 322 yX6_seenFromBehind, .static yX6_seenFromBehind, .code yX6_seenFromBehind cX6_seenFromBehind 1 (some .int), .methodLink RX0 67 yX0_makeWays, .instanceMethod yX0_makeWays, .selects RX0 yX0_makeWays yX0_makeWays, .initialized RX0, .code yX0_makeWays cX0_makeWays 4 none, .static yX6_turnedOver, .code yX6_turnedOver cX6_turnedOver 5 (some .int), .methodLink RX6 296 yX6_colorsAt, .static yX6_colorsAt, .code yX6_colorsAt cX6_colorsAt 2 (some .int), .constant RX6 321 (983055), .static yX6_turned, .code yX6_turned cX6_turned 3 (some .int)] ++ wsX00)
def wsX1_next : List Cond := .code yX1_next cX1_next 2 (some .int) :: ([.fieldLink RX1 16 "TwoFacedTiles$Draws" "rest" "I", .fieldLink RX1 13 "TwoFacedTiles$Draws" "colors" "I", .fieldLink RX1 7 "TwoFacedTiles$Draws" "seed" "I"] ++ wsX10)
def wsX6_opposite : List Cond := .code yX6_opposite cX6_opposite 1 (some .int) :: ([])
def wsX0_cutSide : List Cond := .code yX0_cutSide cX0_cutSide 8 none :: ([.fieldLink RX0 34 "TwoFacedTiles$Board" "looks" "[I", .methodLink RX0 80 yX0_neighbor, .instanceMethod yX0_neighbor, .selects RX0 yX0_neighbor yX0_neighbor, .initialized RX0, .code yX0_neighbor cX0_neighbor 4 (some .int), .fieldLink RX0 15 "TwoFacedTiles$Board" "columns" "I", .methodLink RX0 43 yX0_cells, .instanceMethod yX0_cells, .selects RX0 yX0_cells yX0_cells, .code yX0_cells cX0_cells 1 (some .int), .fieldLink RX0 9 "TwoFacedTiles$Board" "rows" "I", .methodLink RX0 83 yX1_next, .instanceMethod yX1_next, .selects RX1 yX1_next yX1_next, .initialized RX1, .code yX1_next cX1_next 2 (some .int), .fieldLink RX1 16 "TwoFacedTiles$Draws" "rest" "I", .fieldLink RX1 13 "TwoFacedTiles$Draws" "colors" "I", .fieldLink RX1 7 "TwoFacedTiles$Draws" "seed" "I", .static yX6_opposite, .initialized RX6, .code yX6_opposite cX6_opposite 1 (some .int)] ++ wsX00 ++ wsX10)
def wsX0_cutTiles_r1 : List Cond := [Cond.fieldLink RX0 21 "TwoFacedTiles$Board" "tiles" "I", Cond.fieldLink RX0 34 "TwoFacedTiles$Board" "looks" "[I", Cond.methodLink RX0 43 yX0_cells, Cond.instanceMethod yX0_cells, Cond.selects RX0 yX0_cells yX0_cells, Cond.initialized RX0, Cond.code yX0_cells cX0_cells 1 (some .int), Cond.fieldLink RX0 9 "TwoFacedTiles$Board" "rows" "I", Cond.fieldLink RX0 15 "TwoFacedTiles$Board" "columns" "I", Cond.methodLink RX0 76 yX0_cutSide, Cond.instanceMethod yX0_cutSide, Cond.selects RX0 yX0_cutSide yX0_cutSide, Cond.code yX0_cutSide cX0_cutSide 8 none, Cond.methodLink RX0 80 yX0_neighbor, Cond.instanceMethod yX0_neighbor, Cond.selects RX0 yX0_neighbor yX0_neighbor, Cond.code yX0_neighbor cX0_neighbor 4 (some .int), Cond.methodLink RX0 83 yX1_next, Cond.instanceMethod yX1_next, Cond.selects RX1 yX1_next yX1_next, Cond.initialized RX1, Cond.code yX1_next cX1_next 2 (some .int), Cond.fieldLink RX1 16 "TwoFacedTiles$Draws" "rest" "I", Cond.fieldLink RX1 13 "TwoFacedTiles$Draws" "colors" "I"]
def wsX0_cutTiles_r2 : List Cond := [Cond.fieldLink RX1 7 "TwoFacedTiles$Draws" "seed" "I", Cond.static yX6_opposite, Cond.initialized RX6, Cond.code yX6_opposite cX6_opposite 1 (some .int), Cond.methodLink RX0 67 yX0_makeWays, Cond.instanceMethod yX0_makeWays, Cond.selects RX0 yX0_makeWays yX0_makeWays, Cond.code yX0_makeWays cX0_makeWays 4 none, Cond.static yX6_turnedOver, Cond.code yX6_turnedOver cX6_turnedOver 5 (some .int), Cond.methodLink RX6 296 yX6_colorsAt, Cond.static yX6_colorsAt, Cond.code yX6_colorsAt cX6_colorsAt 2 (some .int), Cond.constant RX6 321 (983055), Cond.methodLink RX6 322 yX6_seenFromBehind, Cond.static yX6_seenFromBehind, Cond.code yX6_seenFromBehind cX6_seenFromBehind 1 (some .int), Cond.static yX6_turned, Cond.code yX6_turned cX6_turned 3 (some .int)]
def wsX0_cutTiles : List Cond := .code yX0_cutTiles cX0_cutTiles 3 none :: ((wsX0_cutTiles_r1 ++ wsX0_cutTiles_r2) ++ wsX00 ++ wsX10)
def wsX0_faceOf : List Cond := .code yX0_faceOf cX0_faceOf 6 (some .int) :: ([.fieldLink RX0 34 "TwoFacedTiles$Board" "looks" "[I", .static yX6_colorsAt, .initialized RX6, .code yX6_colorsAt cX6_colorsAt 2 (some .int), .constant RX6 321 (983055)] ++ wsX00)
def wsX0_lowestLike : List Cond := .code yX0_lowestLike cX0_lowestLike 4 (some .int) :: ([.fieldLink RX0 34 "TwoFacedTiles$Board" "looks" "[I"] ++ wsX00)
def wsX0_isAlike_r1 : List Cond := [Cond.methodLink RX0 80 yX0_neighbor, Cond.instanceMethod yX0_neighbor, Cond.selects RX0 yX0_neighbor yX0_neighbor, Cond.initialized RX0, Cond.code yX0_neighbor cX0_neighbor 4 (some .int), Cond.fieldLink RX0 15 "TwoFacedTiles$Board" "columns" "I", Cond.methodLink RX0 43 yX0_cells, Cond.instanceMethod yX0_cells, Cond.selects RX0 yX0_cells yX0_cells, Cond.code yX0_cells cX0_cells 1 (some .int), Cond.fieldLink RX0 9 "TwoFacedTiles$Board" "rows" "I", Cond.methodLink RX0 47 yX0_isEmpty, Cond.instanceMethod yX0_isEmpty, Cond.selects RX0 yX0_isEmpty yX0_isEmpty, Cond.code yX0_isEmpty cX0_isEmpty 2 (some .boolean), Cond.fieldLink RX0 27 "TwoFacedTiles$Board" "placings" "[I", Cond.methodLink RX0 98 yX0_lookIn, Cond.instanceMethod yX0_lookIn, Cond.selects RX0 yX0_lookIn yX0_lookIn, Cond.code yX0_lookIn cX0_lookIn 2 (some .int), Cond.fieldLink RX0 34 "TwoFacedTiles$Board" "looks" "[I", Cond.static yX6_colorsAt, Cond.initialized RX6, Cond.code yX6_colorsAt cX6_colorsAt 2 (some .int)]
def wsX0_isAlike_r2 : List Cond := [Cond.constant RX6 321 (983055), Cond.static yX6_opposite, Cond.code yX6_opposite cX6_opposite 1 (some .int)]
def wsX0_isAlike : List Cond := .code yX0_isAlike cX0_isAlike 7 (some .boolean) :: ((wsX0_isAlike_r1 ++ wsX0_isAlike_r2) ++ wsX00)
def wsX0_pairsAlike_r1 : List Cond := [Cond.methodLink RX0 43 yX0_cells, Cond.instanceMethod yX0_cells, Cond.selects RX0 yX0_cells yX0_cells, Cond.initialized RX0, Cond.code yX0_cells cX0_cells 1 (some .int), Cond.fieldLink RX0 9 "TwoFacedTiles$Board" "rows" "I", Cond.fieldLink RX0 15 "TwoFacedTiles$Board" "columns" "I", Cond.methodLink RX0 94 yX0_isAlike, Cond.instanceMethod yX0_isAlike, Cond.selects RX0 yX0_isAlike yX0_isAlike, Cond.code yX0_isAlike cX0_isAlike 7 (some .boolean), Cond.methodLink RX0 80 yX0_neighbor, Cond.instanceMethod yX0_neighbor, Cond.selects RX0 yX0_neighbor yX0_neighbor, Cond.code yX0_neighbor cX0_neighbor 4 (some .int), Cond.methodLink RX0 47 yX0_isEmpty, Cond.instanceMethod yX0_isEmpty, Cond.selects RX0 yX0_isEmpty yX0_isEmpty, Cond.code yX0_isEmpty cX0_isEmpty 2 (some .boolean), Cond.fieldLink RX0 27 "TwoFacedTiles$Board" "placings" "[I", Cond.methodLink RX0 98 yX0_lookIn, Cond.instanceMethod yX0_lookIn, Cond.selects RX0 yX0_lookIn yX0_lookIn, Cond.code yX0_lookIn cX0_lookIn 2 (some .int)]
def wsX0_pairsAlike_r2 : List Cond := [Cond.fieldLink RX0 34 "TwoFacedTiles$Board" "looks" "[I", Cond.static yX6_colorsAt, Cond.initialized RX6, Cond.code yX6_colorsAt cX6_colorsAt 2 (some .int), Cond.constant RX6 321 (983055), Cond.static yX6_opposite, Cond.code yX6_opposite cX6_opposite 1 (some .int)]
def wsX0_pairsAlike : List Cond := .code yX0_pairsAlike cX0_pairsAlike 4 (some .int) :: ((wsX0_pairsAlike_r1 ++ wsX0_pairsAlike_r2) ++ wsX00)
def wsX1_init : List Cond := .code yX1_init cX1_init 1 none :: ([.methodLink RX1 1 objectInit, .instanceMethod objectInit, .code objectInit ⟨#[0xb1]⟩ 1 none, .fieldLink RX1 7 "TwoFacedTiles$Draws" "seed" "I", .fieldLink RX1 13 "TwoFacedTiles$Draws" "colors" "I", .fieldLink RX1 16 "TwoFacedTiles$Draws" "rest" "I"] ++ wsX10)
def wsX1_start : List Cond := .code yX1_start cX1_start 3 none :: ([.fieldLink RX1 7 "TwoFacedTiles$Draws" "seed" "I", .fieldLink RX1 13 "TwoFacedTiles$Draws" "colors" "I", .fieldLink RX1 16 "TwoFacedTiles$Draws" "rest" "I"] ++ wsX10)
def wsX2_init : List Cond := .code yX2_init cX2_init 2 none :: ([.methodLink RX2 3 objectInit, .instanceMethod objectInit, .code objectInit ⟨#[0xb1]⟩ 1 none, .classLink RX2 9 RX0, .fieldLink RX2 11 "TwoFacedTiles$History" "states" "[LTwoFacedTiles$Board;", .fieldLink RX2 17 "TwoFacedTiles$History" "oldest" "I", .fieldLink RX2 21 "TwoFacedTiles$History" "kept" "I", .instantiable RX0 8, .initialized RX0, .instanceMethod yX0_init, .code yX0_init cX0_init 1 none, .methodLink RX0 3 objectInit, .fieldLink RX0 9 "TwoFacedTiles$Board" "rows" "I", .fieldLink RX0 15 "TwoFacedTiles$Board" "columns" "I", .fieldLink RX0 18 "TwoFacedTiles$Board" "rule" "I", .fieldLink RX0 21 "TwoFacedTiles$Board" "tiles" "I", .fieldLink RX0 24 "TwoFacedTiles$Board" "fixed" "I", .arrayClass .int, .fieldLink RX0 27 "TwoFacedTiles$Board" "placings" "[I", .fieldLink RX0 31 "TwoFacedTiles$Board" "places" "[I", .fieldLink RX0 34 "TwoFacedTiles$Board" "looks" "[I"] ++ wsX20 ++ wsX00)
def wsX2_save : List Cond := .code yX2_save cX2_save 2 none :: ([.fieldLink RX2 21 "TwoFacedTiles$History" "kept" "I", .fieldLink RX2 17 "TwoFacedTiles$History" "oldest" "I", .fieldLink RX2 11 "TwoFacedTiles$History" "states" "[LTwoFacedTiles$Board;", .methodLink RX2 25 yX0_copyFrom, .instanceMethod yX0_copyFrom, .selects RX0 yX0_copyFrom yX0_copyFrom, .initialized RX0, .code yX0_copyFrom cX0_copyFrom 2 none, .fieldLink RX0 9 "TwoFacedTiles$Board" "rows" "I", .fieldLink RX0 15 "TwoFacedTiles$Board" "columns" "I", .fieldLink RX0 18 "TwoFacedTiles$Board" "rule" "I", .fieldLink RX0 21 "TwoFacedTiles$Board" "tiles" "I", .fieldLink RX0 24 "TwoFacedTiles$Board" "fixed" "I", .fieldLink RX0 27 "TwoFacedTiles$Board" "placings" "[I", .methodLink RX0 37 arraycopyName, .native arraycopyName, .static arraycopyName, .initialized "java/lang/System", .fieldLink RX0 31 "TwoFacedTiles$Board" "places" "[I", .fieldLink RX0 34 "TwoFacedTiles$Board" "looks" "[I"] ++ wsX20 ++ wsX00)
def wsX2_restore : List Cond := .code yX2_restore cX2_restore 2 none :: ([.fieldLink RX2 21 "TwoFacedTiles$History" "kept" "I", .fieldLink RX2 11 "TwoFacedTiles$History" "states" "[LTwoFacedTiles$Board;", .fieldLink RX2 17 "TwoFacedTiles$History" "oldest" "I", .methodLink RX2 25 yX0_copyFrom, .instanceMethod yX0_copyFrom, .selects RX0 yX0_copyFrom yX0_copyFrom, .initialized RX0, .code yX0_copyFrom cX0_copyFrom 2 none, .fieldLink RX0 9 "TwoFacedTiles$Board" "rows" "I", .fieldLink RX0 15 "TwoFacedTiles$Board" "columns" "I", .fieldLink RX0 18 "TwoFacedTiles$Board" "rule" "I", .fieldLink RX0 21 "TwoFacedTiles$Board" "tiles" "I", .fieldLink RX0 24 "TwoFacedTiles$Board" "fixed" "I", .fieldLink RX0 27 "TwoFacedTiles$Board" "placings" "[I", .methodLink RX0 37 arraycopyName, .native arraycopyName, .static arraycopyName, .initialized "java/lang/System", .fieldLink RX0 31 "TwoFacedTiles$Board" "places" "[I", .fieldLink RX0 34 "TwoFacedTiles$Board" "looks" "[I"] ++ wsX20 ++ wsX00)
def wsX3_init : List Cond := .code yX3_init cX3_init 1 none :: ([.methodLink RX3 3 objectInit, .instanceMethod objectInit, .code objectInit ⟨#[0xb1]⟩ 1 none, .fieldLink RX3 9 "TwoFacedTiles$Needs" "mustBeZero" "I", .fieldLink RX3 15 "TwoFacedTiles$Needs" "mustAgree" "I", .fieldLink RX3 18 "TwoFacedTiles$Needs" "wanted" "I", .fieldLink RX3 21 "TwoFacedTiles$Needs" "forbiddenZero" "Z"] ++ wsX30)
def wsX3_ruledColors : List Cond := .code yX3_ruledColors cX3_ruledColors 1 (some .int) :: ([.constant RX3 55 (983055)])
def wsX3_readNeighbor : List Cond := .code yX3_readNeighbor cX3_readNeighbor 4 none :: ([.fieldLink RX3 15 "TwoFacedTiles$Needs" "mustAgree" "I", .constant RX3 55 (983055), .fieldLink RX3 18 "TwoFacedTiles$Needs" "wanted" "I", .fieldLink RX3 21 "TwoFacedTiles$Needs" "forbiddenZero" "Z", .constant RX3 56 (983040)] ++ wsX30)
def wsX3_read_r1 : List Cond := [Cond.fieldLink RX3 9 "TwoFacedTiles$Needs" "mustBeZero" "I", Cond.fieldLink RX3 15 "TwoFacedTiles$Needs" "mustAgree" "I", Cond.fieldLink RX3 18 "TwoFacedTiles$Needs" "wanted" "I", Cond.fieldLink RX3 21 "TwoFacedTiles$Needs" "forbiddenZero" "Z", Cond.fieldLink RX3 25 "TwoFacedTiles$Board" "rule" "I", Cond.methodLink RX3 30 yX3_ruledColors, Cond.static yX3_ruledColors, Cond.initialized RX3, Cond.code yX3_ruledColors cX3_ruledColors 1 (some .int), Cond.constant RX3 55 (983055), Cond.methodLink RX3 34 yX0_neighbor, Cond.instanceMethod yX0_neighbor, Cond.selects RX0 yX0_neighbor yX0_neighbor, Cond.initialized RX0, Cond.code yX0_neighbor cX0_neighbor 4 (some .int), Cond.fieldLink RX0 15 "TwoFacedTiles$Board" "columns" "I", Cond.methodLink RX0 43 yX0_cells, Cond.instanceMethod yX0_cells, Cond.selects RX0 yX0_cells yX0_cells, Cond.code yX0_cells cX0_cells 1 (some .int), Cond.fieldLink RX0 9 "TwoFacedTiles$Board" "rows" "I", Cond.methodLink RX3 38 yX0_isEmpty, Cond.instanceMethod yX0_isEmpty, Cond.selects RX0 yX0_isEmpty yX0_isEmpty]
def wsX3_read_r2 : List Cond := [Cond.code yX0_isEmpty cX0_isEmpty 2 (some .boolean), Cond.fieldLink RX0 27 "TwoFacedTiles$Board" "placings" "[I", Cond.methodLink RX3 42 yX0_lookIn, Cond.instanceMethod yX0_lookIn, Cond.selects RX0 yX0_lookIn yX0_lookIn, Cond.code yX0_lookIn cX0_lookIn 2 (some .int), Cond.fieldLink RX0 34 "TwoFacedTiles$Board" "looks" "[I", Cond.static yX6_opposite, Cond.initialized RX6, Cond.code yX6_opposite cX6_opposite 1 (some .int), Cond.static yX6_colorsAt, Cond.code yX6_colorsAt cX6_colorsAt 2 (some .int), Cond.constant RX6 321 (983055), Cond.methodLink RX3 51 yX3_readNeighbor, Cond.instanceMethod yX3_readNeighbor, Cond.selects RX3 yX3_readNeighbor yX3_readNeighbor, Cond.code yX3_readNeighbor cX3_readNeighbor 4 none, Cond.constant RX3 56 (983040)]
def wsX3_read : List Cond := .code yX3_read cX3_read 6 none :: ((wsX3_read_r1 ++ wsX3_read_r2) ++ wsX30 ++ wsX00)
def wsX3_reasonAgainst : List Cond := .code yX3_reasonAgainst cX3_reasonAgainst 3 (some .int) :: ([.fieldLink RX3 9 "TwoFacedTiles$Needs" "mustBeZero" "I", .fieldLink RX3 18 "TwoFacedTiles$Needs" "wanted" "I", .fieldLink RX3 15 "TwoFacedTiles$Needs" "mustAgree" "I", .constant RX3 57 (65535), .fieldLink RX3 21 "TwoFacedTiles$Needs" "forbiddenZero" "Z"] ++ wsX30)
def wsX4_init_r1 : List Cond := [Cond.methodLink RX4 3 objectInit, Cond.instanceMethod objectInit, Cond.code objectInit ⟨#[0xb1]⟩ 1 none, Cond.classLink RX4 9 RX0, Cond.instantiable RX0 8, Cond.initialized RX0, Cond.fieldLink RX4 12 "TwoFacedTiles$Search" "trial" "LTwoFacedTiles$Board;", Cond.fieldLink RX4 18 "TwoFacedTiles$Search" "found" "I", Cond.classLink RX4 22 RX3, Cond.fieldLink RX4 24 "TwoFacedTiles$Search" "needs" "[LTwoFacedTiles$Needs;", Cond.fieldLink RX4 28 "TwoFacedTiles$Search" "most" "I", Cond.fieldLink RX4 31 "TwoFacedTiles$Search" "steps" "I", Cond.fieldLink RX4 34 "TwoFacedTiles$Search" "tooManySteps" "Z", Cond.fieldLink RX4 38 "TwoFacedTiles$Search" "over" "Z", Cond.instantiable RX3 4, Cond.initialized RX3, Cond.instanceMethod yX0_init, Cond.code yX0_init cX0_init 1 none, Cond.methodLink RX0 3 objectInit, Cond.fieldLink RX0 9 "TwoFacedTiles$Board" "rows" "I", Cond.fieldLink RX0 15 "TwoFacedTiles$Board" "columns" "I", Cond.fieldLink RX0 18 "TwoFacedTiles$Board" "rule" "I", Cond.fieldLink RX0 21 "TwoFacedTiles$Board" "tiles" "I", Cond.fieldLink RX0 24 "TwoFacedTiles$Board" "fixed" "I"]
def wsX4_init_r2 : List Cond := [Cond.arrayClass .int, Cond.fieldLink RX0 27 "TwoFacedTiles$Board" "placings" "[I", Cond.fieldLink RX0 31 "TwoFacedTiles$Board" "places" "[I", Cond.fieldLink RX0 34 "TwoFacedTiles$Board" "looks" "[I", Cond.instanceMethod yX3_init, Cond.code yX3_init cX3_init 1 none, Cond.methodLink RX3 3 objectInit, Cond.fieldLink RX3 9 "TwoFacedTiles$Needs" "mustBeZero" "I", Cond.fieldLink RX3 15 "TwoFacedTiles$Needs" "mustAgree" "I", Cond.fieldLink RX3 18 "TwoFacedTiles$Needs" "wanted" "I", Cond.fieldLink RX3 21 "TwoFacedTiles$Needs" "forbiddenZero" "Z"]
def wsX4_init : List Cond := .code yX4_init cX4_init 2 none :: ((wsX4_init_r1 ++ wsX4_init_r2) ++ wsX00 ++ wsX40 ++ wsX30)
def wsX4_fillFrom_r1 : List Cond := [Cond.fieldLink RX4 12 "TwoFacedTiles$Search" "trial" "LTwoFacedTiles$Board;", Cond.fieldLink RX4 18 "TwoFacedTiles$Search" "found" "I", Cond.fieldLink RX4 28 "TwoFacedTiles$Search" "most" "I", Cond.fieldLink RX4 38 "TwoFacedTiles$Search" "over" "Z", Cond.fieldLink RX4 24 "TwoFacedTiles$Search" "needs" "[LTwoFacedTiles$Needs;", Cond.fieldLink RX4 69 "TwoFacedTiles$Board" "tiles" "I", Cond.fieldLink RX4 75 "TwoFacedTiles$Board" "looks" "[I", Cond.methodLink RX4 57 yX0_cells, Cond.instanceMethod yX0_cells, Cond.selects RX0 yX0_cells yX0_cells, Cond.initialized RX0, Cond.code yX0_cells cX0_cells 1 (some .int), Cond.fieldLink RX0 9 "TwoFacedTiles$Board" "rows" "I", Cond.fieldLink RX0 15 "TwoFacedTiles$Board" "columns" "I", Cond.methodLink RX4 61 yX0_isEmpty, Cond.instanceMethod yX0_isEmpty, Cond.selects RX0 yX0_isEmpty yX0_isEmpty, Cond.code yX0_isEmpty cX0_isEmpty 2 (some .boolean), Cond.fieldLink RX0 27 "TwoFacedTiles$Board" "placings" "[I", Cond.methodLink RX4 65 yX3_read, Cond.instanceMethod yX3_read, Cond.selects RX3 yX3_read yX3_read, Cond.initialized RX3, Cond.code yX3_read cX3_read 6 none]
def wsX4_fillFrom_r2 : List Cond := [Cond.fieldLink RX3 9 "TwoFacedTiles$Needs" "mustBeZero" "I", Cond.fieldLink RX3 15 "TwoFacedTiles$Needs" "mustAgree" "I", Cond.fieldLink RX3 18 "TwoFacedTiles$Needs" "wanted" "I", Cond.fieldLink RX3 21 "TwoFacedTiles$Needs" "forbiddenZero" "Z", Cond.fieldLink RX3 25 "TwoFacedTiles$Board" "rule" "I", Cond.methodLink RX3 30 yX3_ruledColors, Cond.static yX3_ruledColors, Cond.code yX3_ruledColors cX3_ruledColors 1 (some .int), Cond.constant RX3 55 (983055), Cond.methodLink RX3 34 yX0_neighbor, Cond.instanceMethod yX0_neighbor, Cond.selects RX0 yX0_neighbor yX0_neighbor, Cond.code yX0_neighbor cX0_neighbor 4 (some .int), Cond.methodLink RX0 43 yX0_cells, Cond.methodLink RX3 38 yX0_isEmpty, Cond.methodLink RX3 42 yX0_lookIn, Cond.instanceMethod yX0_lookIn, Cond.selects RX0 yX0_lookIn yX0_lookIn, Cond.code yX0_lookIn cX0_lookIn 2 (some .int), Cond.fieldLink RX0 34 "TwoFacedTiles$Board" "looks" "[I", Cond.static yX6_opposite, Cond.initialized RX6, Cond.code yX6_opposite cX6_opposite 1 (some .int), Cond.static yX6_colorsAt]
def wsX4_fillFrom_r3 : List Cond := [Cond.code yX6_colorsAt cX6_colorsAt 2 (some .int), Cond.constant RX6 321 (983055), Cond.methodLink RX3 51 yX3_readNeighbor, Cond.instanceMethod yX3_readNeighbor, Cond.selects RX3 yX3_readNeighbor yX3_readNeighbor, Cond.code yX3_readNeighbor cX3_readNeighbor 4 none, Cond.constant RX3 56 (983040), Cond.methodLink RX4 72 yX0_isLaid, Cond.instanceMethod yX0_isLaid, Cond.selects RX0 yX0_isLaid yX0_isLaid, Cond.code yX0_isLaid cX0_isLaid 2 (some .boolean), Cond.fieldLink RX0 31 "TwoFacedTiles$Board" "places" "[I", Cond.methodLink RX4 79 yX3_reasonAgainst, Cond.instanceMethod yX3_reasonAgainst, Cond.selects RX3 yX3_reasonAgainst yX3_reasonAgainst, Cond.code yX3_reasonAgainst cX3_reasonAgainst 3 (some .int), Cond.constant RX3 57 (65535), Cond.methodLink RX4 82 yX4_tryPlacing, Cond.instanceMethod yX4_tryPlacing, Cond.selects RX4 yX4_tryPlacing yX4_tryPlacing, Cond.initialized RX4, Cond.code yX4_tryPlacing cX4_tryPlacing 3 none, Cond.fieldLink RX4 31 "TwoFacedTiles$Search" "steps" "I", Cond.fieldLink RX4 34 "TwoFacedTiles$Search" "tooManySteps" "Z"]
def wsX4_fillFrom_r4 : List Cond := [Cond.methodLink RX4 86 yX0_put, Cond.instanceMethod yX0_put, Cond.selects RX0 yX0_put yX0_put, Cond.code yX0_put cX0_put 3 none, Cond.methodLink RX4 54 yX4_fillFrom, Cond.instanceMethod yX4_fillFrom, Cond.selects RX4 yX4_fillFrom yX4_fillFrom, Cond.methodLink RX4 89 yX0_remove, Cond.instanceMethod yX0_remove, Cond.selects RX0 yX0_remove yX0_remove, Cond.code yX0_remove cX0_remove 2 none]
def wsX4_fillFrom : List Cond := .code yX4_fillFrom cX4_fillFrom 7 none :: ((wsX4_fillFrom_r1 ++ (wsX4_fillFrom_r2 ++ (wsX4_fillFrom_r3 ++ wsX4_fillFrom_r4))) ++ wsX40 ++ wsX00 ++ wsX30)
def wsX4_tryPlacing_r1 : List Cond := [Cond.fieldLink RX4 31 "TwoFacedTiles$Search" "steps" "I", Cond.fieldLink RX4 34 "TwoFacedTiles$Search" "tooManySteps" "Z", Cond.fieldLink RX4 38 "TwoFacedTiles$Search" "over" "Z", Cond.fieldLink RX4 12 "TwoFacedTiles$Search" "trial" "LTwoFacedTiles$Board;", Cond.methodLink RX4 86 yX0_put, Cond.instanceMethod yX0_put, Cond.selects RX0 yX0_put yX0_put, Cond.initialized RX0, Cond.code yX0_put cX0_put 3 none, Cond.fieldLink RX0 27 "TwoFacedTiles$Board" "placings" "[I", Cond.fieldLink RX0 31 "TwoFacedTiles$Board" "places" "[I", Cond.methodLink RX4 54 yX4_fillFrom, Cond.instanceMethod yX4_fillFrom, Cond.selects RX4 yX4_fillFrom yX4_fillFrom, Cond.initialized RX4, Cond.methodLink RX4 89 yX0_remove, Cond.instanceMethod yX0_remove, Cond.selects RX0 yX0_remove yX0_remove, Cond.code yX0_remove cX0_remove 2 none, Cond.code yX4_fillFrom cX4_fillFrom 7 none, Cond.fieldLink RX4 18 "TwoFacedTiles$Search" "found" "I", Cond.fieldLink RX4 28 "TwoFacedTiles$Search" "most" "I", Cond.fieldLink RX4 24 "TwoFacedTiles$Search" "needs" "[LTwoFacedTiles$Needs;", Cond.fieldLink RX4 69 "TwoFacedTiles$Board" "tiles" "I"]
def wsX4_tryPlacing_r2 : List Cond := [Cond.fieldLink RX4 75 "TwoFacedTiles$Board" "looks" "[I", Cond.methodLink RX4 57 yX0_cells, Cond.instanceMethod yX0_cells, Cond.selects RX0 yX0_cells yX0_cells, Cond.code yX0_cells cX0_cells 1 (some .int), Cond.fieldLink RX0 9 "TwoFacedTiles$Board" "rows" "I", Cond.fieldLink RX0 15 "TwoFacedTiles$Board" "columns" "I", Cond.methodLink RX4 61 yX0_isEmpty, Cond.instanceMethod yX0_isEmpty, Cond.selects RX0 yX0_isEmpty yX0_isEmpty, Cond.code yX0_isEmpty cX0_isEmpty 2 (some .boolean), Cond.methodLink RX4 65 yX3_read, Cond.instanceMethod yX3_read, Cond.selects RX3 yX3_read yX3_read, Cond.initialized RX3, Cond.code yX3_read cX3_read 6 none, Cond.fieldLink RX3 9 "TwoFacedTiles$Needs" "mustBeZero" "I", Cond.fieldLink RX3 15 "TwoFacedTiles$Needs" "mustAgree" "I", Cond.fieldLink RX3 18 "TwoFacedTiles$Needs" "wanted" "I", Cond.fieldLink RX3 21 "TwoFacedTiles$Needs" "forbiddenZero" "Z", Cond.fieldLink RX3 25 "TwoFacedTiles$Board" "rule" "I", Cond.methodLink RX3 30 yX3_ruledColors, Cond.static yX3_ruledColors, Cond.code yX3_ruledColors cX3_ruledColors 1 (some .int)]
def wsX4_tryPlacing_r3 : List Cond := [Cond.constant RX3 55 (983055), Cond.methodLink RX3 34 yX0_neighbor, Cond.instanceMethod yX0_neighbor, Cond.selects RX0 yX0_neighbor yX0_neighbor, Cond.code yX0_neighbor cX0_neighbor 4 (some .int), Cond.methodLink RX0 43 yX0_cells, Cond.methodLink RX3 38 yX0_isEmpty, Cond.methodLink RX3 42 yX0_lookIn, Cond.instanceMethod yX0_lookIn, Cond.selects RX0 yX0_lookIn yX0_lookIn, Cond.code yX0_lookIn cX0_lookIn 2 (some .int), Cond.fieldLink RX0 34 "TwoFacedTiles$Board" "looks" "[I", Cond.static yX6_opposite, Cond.initialized RX6, Cond.code yX6_opposite cX6_opposite 1 (some .int), Cond.static yX6_colorsAt, Cond.code yX6_colorsAt cX6_colorsAt 2 (some .int), Cond.constant RX6 321 (983055), Cond.methodLink RX3 51 yX3_readNeighbor, Cond.instanceMethod yX3_readNeighbor, Cond.selects RX3 yX3_readNeighbor yX3_readNeighbor, Cond.code yX3_readNeighbor cX3_readNeighbor 4 none, Cond.constant RX3 56 (983040), Cond.methodLink RX4 72 yX0_isLaid]
def wsX4_tryPlacing_r4 : List Cond := [Cond.instanceMethod yX0_isLaid, Cond.selects RX0 yX0_isLaid yX0_isLaid, Cond.code yX0_isLaid cX0_isLaid 2 (some .boolean), Cond.methodLink RX4 79 yX3_reasonAgainst, Cond.instanceMethod yX3_reasonAgainst, Cond.selects RX3 yX3_reasonAgainst yX3_reasonAgainst, Cond.code yX3_reasonAgainst cX3_reasonAgainst 3 (some .int), Cond.constant RX3 57 (65535), Cond.methodLink RX4 82 yX4_tryPlacing, Cond.instanceMethod yX4_tryPlacing, Cond.selects RX4 yX4_tryPlacing yX4_tryPlacing]
def wsX4_tryPlacing : List Cond := .code yX4_tryPlacing cX4_tryPlacing 3 none :: ((wsX4_tryPlacing_r1 ++ (wsX4_tryPlacing_r2 ++ (wsX4_tryPlacing_r3 ++ wsX4_tryPlacing_r4))) ++ wsX40 ++ wsX00 ++ wsX30)
def wsX4_runTrial_r1 : List Cond := [Cond.fieldLink RX4 28 "TwoFacedTiles$Search" "most" "I", Cond.fieldLink RX4 18 "TwoFacedTiles$Search" "found" "I", Cond.fieldLink RX4 31 "TwoFacedTiles$Search" "steps" "I", Cond.fieldLink RX4 34 "TwoFacedTiles$Search" "tooManySteps" "Z", Cond.fieldLink RX4 38 "TwoFacedTiles$Search" "over" "Z", Cond.methodLink RX4 54 yX4_fillFrom, Cond.instanceMethod yX4_fillFrom, Cond.selects RX4 yX4_fillFrom yX4_fillFrom, Cond.initialized RX4, Cond.code yX4_fillFrom cX4_fillFrom 7 none, Cond.fieldLink RX4 12 "TwoFacedTiles$Search" "trial" "LTwoFacedTiles$Board;", Cond.fieldLink RX4 24 "TwoFacedTiles$Search" "needs" "[LTwoFacedTiles$Needs;", Cond.fieldLink RX4 69 "TwoFacedTiles$Board" "tiles" "I", Cond.fieldLink RX4 75 "TwoFacedTiles$Board" "looks" "[I", Cond.methodLink RX4 57 yX0_cells, Cond.instanceMethod yX0_cells, Cond.selects RX0 yX0_cells yX0_cells, Cond.initialized RX0, Cond.code yX0_cells cX0_cells 1 (some .int), Cond.fieldLink RX0 9 "TwoFacedTiles$Board" "rows" "I", Cond.fieldLink RX0 15 "TwoFacedTiles$Board" "columns" "I", Cond.methodLink RX4 61 yX0_isEmpty, Cond.instanceMethod yX0_isEmpty, Cond.selects RX0 yX0_isEmpty yX0_isEmpty]
def wsX4_runTrial_r2 : List Cond := [Cond.code yX0_isEmpty cX0_isEmpty 2 (some .boolean), Cond.fieldLink RX0 27 "TwoFacedTiles$Board" "placings" "[I", Cond.methodLink RX4 65 yX3_read, Cond.instanceMethod yX3_read, Cond.selects RX3 yX3_read yX3_read, Cond.initialized RX3, Cond.code yX3_read cX3_read 6 none, Cond.fieldLink RX3 9 "TwoFacedTiles$Needs" "mustBeZero" "I", Cond.fieldLink RX3 15 "TwoFacedTiles$Needs" "mustAgree" "I", Cond.fieldLink RX3 18 "TwoFacedTiles$Needs" "wanted" "I", Cond.fieldLink RX3 21 "TwoFacedTiles$Needs" "forbiddenZero" "Z", Cond.fieldLink RX3 25 "TwoFacedTiles$Board" "rule" "I", Cond.methodLink RX3 30 yX3_ruledColors, Cond.static yX3_ruledColors, Cond.code yX3_ruledColors cX3_ruledColors 1 (some .int), Cond.constant RX3 55 (983055), Cond.methodLink RX3 34 yX0_neighbor, Cond.instanceMethod yX0_neighbor, Cond.selects RX0 yX0_neighbor yX0_neighbor, Cond.code yX0_neighbor cX0_neighbor 4 (some .int), Cond.methodLink RX0 43 yX0_cells, Cond.methodLink RX3 38 yX0_isEmpty, Cond.methodLink RX3 42 yX0_lookIn, Cond.instanceMethod yX0_lookIn]
def wsX4_runTrial_r3 : List Cond := [Cond.selects RX0 yX0_lookIn yX0_lookIn, Cond.code yX0_lookIn cX0_lookIn 2 (some .int), Cond.fieldLink RX0 34 "TwoFacedTiles$Board" "looks" "[I", Cond.static yX6_opposite, Cond.initialized RX6, Cond.code yX6_opposite cX6_opposite 1 (some .int), Cond.static yX6_colorsAt, Cond.code yX6_colorsAt cX6_colorsAt 2 (some .int), Cond.constant RX6 321 (983055), Cond.methodLink RX3 51 yX3_readNeighbor, Cond.instanceMethod yX3_readNeighbor, Cond.selects RX3 yX3_readNeighbor yX3_readNeighbor, Cond.code yX3_readNeighbor cX3_readNeighbor 4 none, Cond.constant RX3 56 (983040), Cond.methodLink RX4 72 yX0_isLaid, Cond.instanceMethod yX0_isLaid, Cond.selects RX0 yX0_isLaid yX0_isLaid, Cond.code yX0_isLaid cX0_isLaid 2 (some .boolean), Cond.fieldLink RX0 31 "TwoFacedTiles$Board" "places" "[I", Cond.methodLink RX4 79 yX3_reasonAgainst, Cond.instanceMethod yX3_reasonAgainst, Cond.selects RX3 yX3_reasonAgainst yX3_reasonAgainst, Cond.code yX3_reasonAgainst cX3_reasonAgainst 3 (some .int), Cond.constant RX3 57 (65535)]
def wsX4_runTrial_r4 : List Cond := [Cond.methodLink RX4 82 yX4_tryPlacing, Cond.instanceMethod yX4_tryPlacing, Cond.selects RX4 yX4_tryPlacing yX4_tryPlacing, Cond.code yX4_tryPlacing cX4_tryPlacing 3 none, Cond.methodLink RX4 86 yX0_put, Cond.instanceMethod yX0_put, Cond.selects RX0 yX0_put yX0_put, Cond.code yX0_put cX0_put 3 none, Cond.methodLink RX4 89 yX0_remove, Cond.instanceMethod yX0_remove, Cond.selects RX0 yX0_remove yX0_remove, Cond.code yX0_remove cX0_remove 2 none]
def wsX4_runTrial : List Cond := .code yX4_runTrial cX4_runTrial 2 none :: ((wsX4_runTrial_r1 ++ (wsX4_runTrial_r2 ++ (wsX4_runTrial_r3 ++ wsX4_runTrial_r4))) ++ wsX40 ++ wsX00 ++ wsX30)
def wsX4_run_r1 : List Cond := [Cond.fieldLink RX4 12 "TwoFacedTiles$Search" "trial" "LTwoFacedTiles$Board;", Cond.methodLink RX4 42 yX0_copyFrom, Cond.instanceMethod yX0_copyFrom, Cond.selects RX0 yX0_copyFrom yX0_copyFrom, Cond.initialized RX0, Cond.code yX0_copyFrom cX0_copyFrom 2 none, Cond.fieldLink RX0 9 "TwoFacedTiles$Board" "rows" "I", Cond.fieldLink RX0 15 "TwoFacedTiles$Board" "columns" "I", Cond.fieldLink RX0 18 "TwoFacedTiles$Board" "rule" "I", Cond.fieldLink RX0 21 "TwoFacedTiles$Board" "tiles" "I", Cond.fieldLink RX0 24 "TwoFacedTiles$Board" "fixed" "I", Cond.fieldLink RX0 27 "TwoFacedTiles$Board" "placings" "[I", Cond.methodLink RX0 37 arraycopyName, Cond.native arraycopyName, Cond.static arraycopyName, Cond.initialized "java/lang/System", Cond.fieldLink RX0 31 "TwoFacedTiles$Board" "places" "[I", Cond.fieldLink RX0 34 "TwoFacedTiles$Board" "looks" "[I", Cond.methodLink RX4 46 yX4_runTrial, Cond.instanceMethod yX4_runTrial, Cond.selects RX4 yX4_runTrial yX4_runTrial, Cond.initialized RX4, Cond.code yX4_runTrial cX4_runTrial 2 none, Cond.fieldLink RX4 28 "TwoFacedTiles$Search" "most" "I"]
def wsX4_run_r2 : List Cond := [Cond.fieldLink RX4 18 "TwoFacedTiles$Search" "found" "I", Cond.fieldLink RX4 31 "TwoFacedTiles$Search" "steps" "I", Cond.fieldLink RX4 34 "TwoFacedTiles$Search" "tooManySteps" "Z", Cond.fieldLink RX4 38 "TwoFacedTiles$Search" "over" "Z", Cond.methodLink RX4 54 yX4_fillFrom, Cond.instanceMethod yX4_fillFrom, Cond.selects RX4 yX4_fillFrom yX4_fillFrom, Cond.code yX4_fillFrom cX4_fillFrom 7 none, Cond.fieldLink RX4 24 "TwoFacedTiles$Search" "needs" "[LTwoFacedTiles$Needs;", Cond.fieldLink RX4 69 "TwoFacedTiles$Board" "tiles" "I", Cond.fieldLink RX4 75 "TwoFacedTiles$Board" "looks" "[I", Cond.methodLink RX4 57 yX0_cells, Cond.instanceMethod yX0_cells, Cond.selects RX0 yX0_cells yX0_cells, Cond.code yX0_cells cX0_cells 1 (some .int), Cond.methodLink RX4 61 yX0_isEmpty, Cond.instanceMethod yX0_isEmpty, Cond.selects RX0 yX0_isEmpty yX0_isEmpty, Cond.code yX0_isEmpty cX0_isEmpty 2 (some .boolean), Cond.methodLink RX4 65 yX3_read, Cond.instanceMethod yX3_read, Cond.selects RX3 yX3_read yX3_read, Cond.initialized RX3, Cond.code yX3_read cX3_read 6 none]
def wsX4_run_r3 : List Cond := [Cond.fieldLink RX3 9 "TwoFacedTiles$Needs" "mustBeZero" "I", Cond.fieldLink RX3 15 "TwoFacedTiles$Needs" "mustAgree" "I", Cond.fieldLink RX3 18 "TwoFacedTiles$Needs" "wanted" "I", Cond.fieldLink RX3 21 "TwoFacedTiles$Needs" "forbiddenZero" "Z", Cond.fieldLink RX3 25 "TwoFacedTiles$Board" "rule" "I", Cond.methodLink RX3 30 yX3_ruledColors, Cond.static yX3_ruledColors, Cond.code yX3_ruledColors cX3_ruledColors 1 (some .int), Cond.constant RX3 55 (983055), Cond.methodLink RX3 34 yX0_neighbor, Cond.instanceMethod yX0_neighbor, Cond.selects RX0 yX0_neighbor yX0_neighbor, Cond.code yX0_neighbor cX0_neighbor 4 (some .int), Cond.methodLink RX0 43 yX0_cells, Cond.methodLink RX3 38 yX0_isEmpty, Cond.methodLink RX3 42 yX0_lookIn, Cond.instanceMethod yX0_lookIn, Cond.selects RX0 yX0_lookIn yX0_lookIn, Cond.code yX0_lookIn cX0_lookIn 2 (some .int), Cond.static yX6_opposite, Cond.initialized RX6, Cond.code yX6_opposite cX6_opposite 1 (some .int), Cond.static yX6_colorsAt, Cond.code yX6_colorsAt cX6_colorsAt 2 (some .int)]
def wsX4_run_r4 : List Cond := [Cond.constant RX6 321 (983055), Cond.methodLink RX3 51 yX3_readNeighbor, Cond.instanceMethod yX3_readNeighbor, Cond.selects RX3 yX3_readNeighbor yX3_readNeighbor, Cond.code yX3_readNeighbor cX3_readNeighbor 4 none, Cond.constant RX3 56 (983040), Cond.methodLink RX4 72 yX0_isLaid, Cond.instanceMethod yX0_isLaid, Cond.selects RX0 yX0_isLaid yX0_isLaid, Cond.code yX0_isLaid cX0_isLaid 2 (some .boolean), Cond.methodLink RX4 79 yX3_reasonAgainst, Cond.instanceMethod yX3_reasonAgainst, Cond.selects RX3 yX3_reasonAgainst yX3_reasonAgainst, Cond.code yX3_reasonAgainst cX3_reasonAgainst 3 (some .int), Cond.constant RX3 57 (65535), Cond.methodLink RX4 82 yX4_tryPlacing, Cond.instanceMethod yX4_tryPlacing, Cond.selects RX4 yX4_tryPlacing yX4_tryPlacing, Cond.code yX4_tryPlacing cX4_tryPlacing 3 none, Cond.methodLink RX4 86 yX0_put, Cond.instanceMethod yX0_put, Cond.selects RX0 yX0_put yX0_put, Cond.code yX0_put cX0_put 3 none, Cond.methodLink RX4 89 yX0_remove]
def wsX4_run_r5 : List Cond := [Cond.instanceMethod yX0_remove, Cond.selects RX0 yX0_remove yX0_remove, Cond.code yX0_remove cX0_remove 2 none]
def wsX4_run : List Cond := .code yX4_run cX4_run 3 none :: ((wsX4_run_r1 ++ (wsX4_run_r2 ++ (wsX4_run_r3 ++ (wsX4_run_r4 ++ wsX4_run_r5)))) ++ wsX40 ++ wsX00 ++ wsX30)
def wsX4_result : List Cond := .code yX4_result cX4_result 2 (some .int) :: ([.fieldLink RX4 18 "TwoFacedTiles$Search" "found" "I", .fieldLink RX4 31 "TwoFacedTiles$Search" "steps" "I", .fieldLink RX4 34 "TwoFacedTiles$Search" "tooManySteps" "Z"] ++ wsX40)
def wsX5_init : List Cond := .code yX5_init cX5_init 1 none :: ([.methodLink RX5 3 objectInit, .instanceMethod objectInit, .code objectInit ⟨#[0xb1]⟩ 1 none, .arrayClass .int, .fieldLink RX5 9 "TwoFacedTiles$Text" "codes" "[I", .fieldLink RX5 15 "TwoFacedTiles$Text" "length" "I"] ++ wsX50)
def wsX6_init_r1 : List Cond := [Cond.methodLink RX6 3 objectInit, Cond.instanceMethod objectInit, Cond.code objectInit ⟨#[0xb1]⟩ 1 none, Cond.classLink RX6 9 RX0, Cond.instantiable RX0 8, Cond.initialized RX0, Cond.fieldLink RX6 12 "TwoFacedTiles" "board" "LTwoFacedTiles$Board;", Cond.classLink RX6 16 RX2, Cond.instantiable RX2 3, Cond.initialized RX2, Cond.fieldLink RX6 19 "TwoFacedTiles" "history" "LTwoFacedTiles$History;", Cond.classLink RX6 23 RX5, Cond.instantiable RX5 2, Cond.initialized RX5, Cond.fieldLink RX6 26 "TwoFacedTiles" "text" "LTwoFacedTiles$Text;", Cond.classLink RX6 30 RX3, Cond.instantiable RX3 4, Cond.initialized RX3, Cond.fieldLink RX6 33 "TwoFacedTiles" "needs" "LTwoFacedTiles$Needs;", Cond.classLink RX6 37 RX4, Cond.instantiable RX4 7, Cond.initialized RX4, Cond.fieldLink RX6 40 "TwoFacedTiles" "search" "LTwoFacedTiles$Search;", Cond.classLink RX6 44 RX1]
def wsX6_init_r2 : List Cond := [Cond.instantiable RX1 3, Cond.initialized RX1, Cond.fieldLink RX6 47 "TwoFacedTiles" "draws" "LTwoFacedTiles$Draws;", Cond.instanceMethod yX0_init, Cond.code yX0_init cX0_init 1 none, Cond.methodLink RX0 3 objectInit, Cond.fieldLink RX0 9 "TwoFacedTiles$Board" "rows" "I", Cond.fieldLink RX0 15 "TwoFacedTiles$Board" "columns" "I", Cond.fieldLink RX0 18 "TwoFacedTiles$Board" "rule" "I", Cond.fieldLink RX0 21 "TwoFacedTiles$Board" "tiles" "I", Cond.fieldLink RX0 24 "TwoFacedTiles$Board" "fixed" "I", Cond.arrayClass .int, Cond.fieldLink RX0 27 "TwoFacedTiles$Board" "placings" "[I", Cond.fieldLink RX0 31 "TwoFacedTiles$Board" "places" "[I", Cond.fieldLink RX0 34 "TwoFacedTiles$Board" "looks" "[I", Cond.methodLink RX6 18 yX2_init, Cond.instanceMethod yX2_init, Cond.code yX2_init cX2_init 2 none, Cond.methodLink RX2 3 objectInit, Cond.classLink RX2 9 RX0, Cond.fieldLink RX2 11 "TwoFacedTiles$History" "states" "[LTwoFacedTiles$Board;", Cond.fieldLink RX2 17 "TwoFacedTiles$History" "oldest" "I", Cond.fieldLink RX2 21 "TwoFacedTiles$History" "kept" "I", Cond.instanceMethod yX5_init]
def wsX6_init_r3 : List Cond := [Cond.code yX5_init cX5_init 1 none, Cond.methodLink RX5 3 objectInit, Cond.fieldLink RX5 9 "TwoFacedTiles$Text" "codes" "[I", Cond.fieldLink RX5 15 "TwoFacedTiles$Text" "length" "I", Cond.instanceMethod yX3_init, Cond.code yX3_init cX3_init 1 none, Cond.methodLink RX3 3 objectInit, Cond.fieldLink RX3 9 "TwoFacedTiles$Needs" "mustBeZero" "I", Cond.fieldLink RX3 15 "TwoFacedTiles$Needs" "mustAgree" "I", Cond.fieldLink RX3 18 "TwoFacedTiles$Needs" "wanted" "I", Cond.fieldLink RX3 21 "TwoFacedTiles$Needs" "forbiddenZero" "Z", Cond.methodLink RX6 39 yX4_init, Cond.instanceMethod yX4_init, Cond.code yX4_init cX4_init 2 none, Cond.methodLink RX4 3 objectInit, Cond.classLink RX4 9 RX0, Cond.fieldLink RX4 12 "TwoFacedTiles$Search" "trial" "LTwoFacedTiles$Board;", Cond.fieldLink RX4 18 "TwoFacedTiles$Search" "found" "I", Cond.classLink RX4 22 RX3, Cond.fieldLink RX4 24 "TwoFacedTiles$Search" "needs" "[LTwoFacedTiles$Needs;", Cond.fieldLink RX4 28 "TwoFacedTiles$Search" "most" "I", Cond.fieldLink RX4 31 "TwoFacedTiles$Search" "steps" "I", Cond.fieldLink RX4 34 "TwoFacedTiles$Search" "tooManySteps" "Z", Cond.fieldLink RX4 38 "TwoFacedTiles$Search" "over" "Z"]
def wsX6_init_r4 : List Cond := [Cond.instanceMethod yX1_init, Cond.code yX1_init cX1_init 1 none, Cond.methodLink RX1 1 objectInit, Cond.fieldLink RX1 7 "TwoFacedTiles$Draws" "seed" "I", Cond.fieldLink RX1 13 "TwoFacedTiles$Draws" "colors" "I", Cond.fieldLink RX1 16 "TwoFacedTiles$Draws" "rest" "I", Cond.methodLink RX6 51 yX0_makeEmpty, Cond.instanceMethod yX0_makeEmpty, Cond.selects RX0 yX0_makeEmpty yX0_makeEmpty, Cond.code yX0_makeEmpty cX0_makeEmpty 4 none]
def wsX6_init : List Cond := .code yX6_init cX6_init 1 none :: ((wsX6_init_r1 ++ (wsX6_init_r2 ++ (wsX6_init_r3 ++ wsX6_init_r4))) ++ wsX00 ++ wsX60 ++ wsX20 ++ wsX50 ++ wsX30 ++ wsX40 ++ wsX10)
def wsX6_begin_r1 : List Cond := [Cond.classLink RX6 55 "java/lang/IllegalArgumentException", Cond.initialized "java/lang/IllegalArgumentException", Cond.fieldLink RX6 19 "TwoFacedTiles" "history" "LTwoFacedTiles$History;", Cond.fieldLink RX6 12 "TwoFacedTiles" "board" "LTwoFacedTiles$Board;", Cond.methodLink RX6 62 yX2_save, Cond.instanceMethod yX2_save, Cond.selects RX2 yX2_save yX2_save, Cond.initialized RX2, Cond.code yX2_save cX2_save 2 none, Cond.fieldLink RX2 21 "TwoFacedTiles$History" "kept" "I", Cond.fieldLink RX2 17 "TwoFacedTiles$History" "oldest" "I", Cond.fieldLink RX2 11 "TwoFacedTiles$History" "states" "[LTwoFacedTiles$Board;", Cond.methodLink RX2 25 yX0_copyFrom, Cond.instanceMethod yX0_copyFrom, Cond.selects RX0 yX0_copyFrom yX0_copyFrom, Cond.initialized RX0, Cond.code yX0_copyFrom cX0_copyFrom 2 none, Cond.fieldLink RX0 9 "TwoFacedTiles$Board" "rows" "I", Cond.fieldLink RX0 15 "TwoFacedTiles$Board" "columns" "I", Cond.fieldLink RX0 18 "TwoFacedTiles$Board" "rule" "I", Cond.fieldLink RX0 21 "TwoFacedTiles$Board" "tiles" "I", Cond.fieldLink RX0 24 "TwoFacedTiles$Board" "fixed" "I", Cond.fieldLink RX0 27 "TwoFacedTiles$Board" "placings" "[I", Cond.methodLink RX0 37 arraycopyName]
def wsX6_begin_r2 : List Cond := [Cond.native arraycopyName, Cond.static arraycopyName, Cond.initialized "java/lang/System", Cond.fieldLink RX0 31 "TwoFacedTiles$Board" "places" "[I", Cond.fieldLink RX0 34 "TwoFacedTiles$Board" "looks" "[I", Cond.methodLink RX6 51 yX0_makeEmpty, Cond.instanceMethod yX0_makeEmpty, Cond.selects RX0 yX0_makeEmpty yX0_makeEmpty, Cond.code yX0_makeEmpty cX0_makeEmpty 4 none, Cond.methodLink RX6 66 yX0_cells, Cond.instanceMethod yX0_cells, Cond.selects RX0 yX0_cells yX0_cells, Cond.code yX0_cells cX0_cells 1 (some .int)]
def wsX6_begin : List Cond := .code yX6_begin cX6_begin 3 (some .int) :: ((wsX6_begin_r1 ++ wsX6_begin_r2) ++ wsX60 ++ wsX20 ++ wsX00 ++ (vx_atS RX6 59 "java/lang/IllegalArgumentException" ["java/lang/RuntimeException", "java/lang/Exception"]).filter goodWord)
def wsX6_addTile_r1 : List Cond := [Cond.classLink RX6 55 "java/lang/IllegalArgumentException", Cond.initialized "java/lang/IllegalArgumentException", Cond.classLink RX6 76 "java/lang/IllegalStateException", Cond.initialized "java/lang/IllegalStateException", Cond.fieldLink RX6 12 "TwoFacedTiles" "board" "LTwoFacedTiles$Board;", Cond.fieldLink RX6 72 "TwoFacedTiles$Board" "tiles" "I", Cond.fieldLink RX6 19 "TwoFacedTiles" "history" "LTwoFacedTiles$History;", Cond.methodLink RX6 62 yX2_save, Cond.instanceMethod yX2_save, Cond.selects RX2 yX2_save yX2_save, Cond.initialized RX2, Cond.code yX2_save cX2_save 2 none, Cond.fieldLink RX2 21 "TwoFacedTiles$History" "kept" "I", Cond.fieldLink RX2 17 "TwoFacedTiles$History" "oldest" "I", Cond.fieldLink RX2 11 "TwoFacedTiles$History" "states" "[LTwoFacedTiles$Board;", Cond.methodLink RX2 25 yX0_copyFrom, Cond.instanceMethod yX0_copyFrom, Cond.selects RX0 yX0_copyFrom yX0_copyFrom, Cond.initialized RX0, Cond.code yX0_copyFrom cX0_copyFrom 2 none, Cond.fieldLink RX0 9 "TwoFacedTiles$Board" "rows" "I", Cond.fieldLink RX0 15 "TwoFacedTiles$Board" "columns" "I", Cond.fieldLink RX0 18 "TwoFacedTiles$Board" "rule" "I", Cond.fieldLink RX0 21 "TwoFacedTiles$Board" "tiles" "I"]
def wsX6_addTile_r2 : List Cond := [Cond.fieldLink RX0 24 "TwoFacedTiles$Board" "fixed" "I", Cond.fieldLink RX0 27 "TwoFacedTiles$Board" "placings" "[I", Cond.methodLink RX0 37 arraycopyName, Cond.native arraycopyName, Cond.static arraycopyName, Cond.initialized "java/lang/System", Cond.fieldLink RX0 31 "TwoFacedTiles$Board" "places" "[I", Cond.fieldLink RX0 34 "TwoFacedTiles$Board" "looks" "[I", Cond.methodLink RX6 81 yX0_addFaces, Cond.instanceMethod yX0_addFaces, Cond.selects RX0 yX0_addFaces yX0_addFaces, Cond.code yX0_addFaces cX0_addFaces 3 none, Cond.static yX6_lookOfFaces, Cond.initialized RX6, Cond.code yX6_lookOfFaces cX6_lookOfFaces 6 (some .int), Cond.methodLink RX6 325 yX6_digit, Cond.static yX6_digit, Cond.code yX6_digit cX6_digit 4 (some .int), Cond.methodLink RX6 322 yX6_seenFromBehind, Cond.static yX6_seenFromBehind, Cond.code yX6_seenFromBehind cX6_seenFromBehind 1 (some .int), Cond.methodLink RX0 67 yX0_makeWays, Cond.instanceMethod yX0_makeWays, Cond.selects RX0 yX0_makeWays yX0_makeWays]
def wsX6_addTile_r3 : List Cond := [Cond.code yX0_makeWays cX0_makeWays 4 none, Cond.static yX6_turnedOver, Cond.code yX6_turnedOver cX6_turnedOver 5 (some .int), Cond.methodLink RX6 296 yX6_colorsAt, Cond.static yX6_colorsAt, Cond.code yX6_colorsAt cX6_colorsAt 2 (some .int), Cond.constant RX6 321 (983055), Cond.static yX6_turned, Cond.code yX6_turned cX6_turned 3 (some .int)]
def wsX6_addTile : List Cond := .code yX6_addTile cX6_addTile 3 (some .int) :: ((wsX6_addTile_r1 ++ (wsX6_addTile_r2 ++ wsX6_addTile_r3)) ++ wsX60 ++ wsX00 ++ wsX20 ++ (vx_atS RX6 59 "java/lang/IllegalArgumentException" ["java/lang/RuntimeException", "java/lang/Exception"]).filter goodWord ++ (vx_atS RX6 80 "java/lang/IllegalStateException" ["java/lang/RuntimeException", "java/lang/Exception"]).filter goodWord)
def wsX6_dropTile_r1 : List Cond := [Cond.classLink RX6 76 "java/lang/IllegalStateException", Cond.initialized "java/lang/IllegalStateException", Cond.fieldLink RX6 12 "TwoFacedTiles" "board" "LTwoFacedTiles$Board;", Cond.fieldLink RX6 72 "TwoFacedTiles$Board" "tiles" "I", Cond.fieldLink RX6 19 "TwoFacedTiles" "history" "LTwoFacedTiles$History;", Cond.methodLink RX6 84 yX0_isLaid, Cond.instanceMethod yX0_isLaid, Cond.selects RX0 yX0_isLaid yX0_isLaid, Cond.initialized RX0, Cond.code yX0_isLaid cX0_isLaid 2 (some .boolean), Cond.fieldLink RX0 31 "TwoFacedTiles$Board" "places" "[I", Cond.methodLink RX6 62 yX2_save, Cond.instanceMethod yX2_save, Cond.selects RX2 yX2_save yX2_save, Cond.initialized RX2, Cond.code yX2_save cX2_save 2 none, Cond.fieldLink RX2 21 "TwoFacedTiles$History" "kept" "I", Cond.fieldLink RX2 17 "TwoFacedTiles$History" "oldest" "I", Cond.fieldLink RX2 11 "TwoFacedTiles$History" "states" "[LTwoFacedTiles$Board;", Cond.methodLink RX2 25 yX0_copyFrom, Cond.instanceMethod yX0_copyFrom, Cond.selects RX0 yX0_copyFrom yX0_copyFrom, Cond.code yX0_copyFrom cX0_copyFrom 2 none, Cond.fieldLink RX0 9 "TwoFacedTiles$Board" "rows" "I"]
def wsX6_dropTile_r2 : List Cond := [Cond.fieldLink RX0 15 "TwoFacedTiles$Board" "columns" "I", Cond.fieldLink RX0 18 "TwoFacedTiles$Board" "rule" "I", Cond.fieldLink RX0 21 "TwoFacedTiles$Board" "tiles" "I", Cond.fieldLink RX0 24 "TwoFacedTiles$Board" "fixed" "I", Cond.fieldLink RX0 27 "TwoFacedTiles$Board" "placings" "[I", Cond.methodLink RX0 37 arraycopyName, Cond.native arraycopyName, Cond.static arraycopyName, Cond.initialized "java/lang/System", Cond.fieldLink RX0 34 "TwoFacedTiles$Board" "looks" "[I"]
def wsX6_dropTile : List Cond := .code yX6_dropTile cX6_dropTile 1 (some .int) :: ((wsX6_dropTile_r1 ++ wsX6_dropTile_r2) ++ wsX60 ++ wsX00 ++ wsX20 ++ (vx_atS RX6 80 "java/lang/IllegalStateException" ["java/lang/RuntimeException", "java/lang/Exception"]).filter goodWord)
def wsX6_setRule_r1 : List Cond := [Cond.classLink RX6 55 "java/lang/IllegalArgumentException", Cond.initialized "java/lang/IllegalArgumentException", Cond.fieldLink RX6 19 "TwoFacedTiles" "history" "LTwoFacedTiles$History;", Cond.fieldLink RX6 12 "TwoFacedTiles" "board" "LTwoFacedTiles$Board;", Cond.fieldLink RX6 92 "TwoFacedTiles$Board" "rule" "I", Cond.methodLink RX6 62 yX2_save, Cond.instanceMethod yX2_save, Cond.selects RX2 yX2_save yX2_save, Cond.initialized RX2, Cond.code yX2_save cX2_save 2 none, Cond.fieldLink RX2 21 "TwoFacedTiles$History" "kept" "I", Cond.fieldLink RX2 17 "TwoFacedTiles$History" "oldest" "I", Cond.fieldLink RX2 11 "TwoFacedTiles$History" "states" "[LTwoFacedTiles$Board;", Cond.methodLink RX2 25 yX0_copyFrom, Cond.instanceMethod yX0_copyFrom, Cond.selects RX0 yX0_copyFrom yX0_copyFrom, Cond.initialized RX0, Cond.code yX0_copyFrom cX0_copyFrom 2 none, Cond.fieldLink RX0 9 "TwoFacedTiles$Board" "rows" "I", Cond.fieldLink RX0 15 "TwoFacedTiles$Board" "columns" "I", Cond.fieldLink RX0 18 "TwoFacedTiles$Board" "rule" "I", Cond.fieldLink RX0 21 "TwoFacedTiles$Board" "tiles" "I", Cond.fieldLink RX0 24 "TwoFacedTiles$Board" "fixed" "I", Cond.fieldLink RX0 27 "TwoFacedTiles$Board" "placings" "[I"]
def wsX6_setRule_r2 : List Cond := [Cond.methodLink RX0 37 arraycopyName, Cond.native arraycopyName, Cond.static arraycopyName, Cond.initialized "java/lang/System", Cond.fieldLink RX0 31 "TwoFacedTiles$Board" "places" "[I", Cond.fieldLink RX0 34 "TwoFacedTiles$Board" "looks" "[I"]
def wsX6_setRule : List Cond := .code yX6_setRule cX6_setRule 3 (some .int) :: ((wsX6_setRule_r1 ++ wsX6_setRule_r2) ++ wsX60 ++ wsX00 ++ wsX20 ++ (vx_atS RX6 59 "java/lang/IllegalArgumentException" ["java/lang/RuntimeException", "java/lang/Exception"]).filter goodWord)
def wsX6_cut_r1 : List Cond := [Cond.classLink RX6 55 "java/lang/IllegalArgumentException", Cond.initialized "java/lang/IllegalArgumentException", Cond.constant RX6 95 (999999999), Cond.fieldLink RX6 19 "TwoFacedTiles" "history" "LTwoFacedTiles$History;", Cond.fieldLink RX6 12 "TwoFacedTiles" "board" "LTwoFacedTiles$Board;", Cond.fieldLink RX6 98 "TwoFacedTiles$Board" "rows" "I", Cond.fieldLink RX6 101 "TwoFacedTiles$Board" "columns" "I", Cond.fieldLink RX6 47 "TwoFacedTiles" "draws" "LTwoFacedTiles$Draws;", Cond.fieldLink RX6 72 "TwoFacedTiles$Board" "tiles" "I", Cond.methodLink RX6 62 yX2_save, Cond.instanceMethod yX2_save, Cond.selects RX2 yX2_save yX2_save, Cond.initialized RX2, Cond.code yX2_save cX2_save 2 none, Cond.fieldLink RX2 21 "TwoFacedTiles$History" "kept" "I", Cond.fieldLink RX2 17 "TwoFacedTiles$History" "oldest" "I", Cond.fieldLink RX2 11 "TwoFacedTiles$History" "states" "[LTwoFacedTiles$Board;", Cond.methodLink RX2 25 yX0_copyFrom, Cond.instanceMethod yX0_copyFrom, Cond.selects RX0 yX0_copyFrom yX0_copyFrom, Cond.initialized RX0, Cond.code yX0_copyFrom cX0_copyFrom 2 none, Cond.fieldLink RX0 9 "TwoFacedTiles$Board" "rows" "I", Cond.fieldLink RX0 15 "TwoFacedTiles$Board" "columns" "I"]
def wsX6_cut_r2 : List Cond := [Cond.fieldLink RX0 18 "TwoFacedTiles$Board" "rule" "I", Cond.fieldLink RX0 21 "TwoFacedTiles$Board" "tiles" "I", Cond.fieldLink RX0 24 "TwoFacedTiles$Board" "fixed" "I", Cond.fieldLink RX0 27 "TwoFacedTiles$Board" "placings" "[I", Cond.methodLink RX0 37 arraycopyName, Cond.native arraycopyName, Cond.static arraycopyName, Cond.initialized "java/lang/System", Cond.fieldLink RX0 31 "TwoFacedTiles$Board" "places" "[I", Cond.fieldLink RX0 34 "TwoFacedTiles$Board" "looks" "[I", Cond.methodLink RX6 51 yX0_makeEmpty, Cond.instanceMethod yX0_makeEmpty, Cond.selects RX0 yX0_makeEmpty yX0_makeEmpty, Cond.code yX0_makeEmpty cX0_makeEmpty 4 none, Cond.methodLink RX6 104 yX1_start, Cond.instanceMethod yX1_start, Cond.selects RX1 yX1_start yX1_start, Cond.initialized RX1, Cond.code yX1_start cX1_start 3 none, Cond.fieldLink RX1 7 "TwoFacedTiles$Draws" "seed" "I", Cond.fieldLink RX1 13 "TwoFacedTiles$Draws" "colors" "I", Cond.fieldLink RX1 16 "TwoFacedTiles$Draws" "rest" "I", Cond.methodLink RX6 107 yX0_cutTiles, Cond.instanceMethod yX0_cutTiles]
def wsX6_cut_r3 : List Cond := [Cond.selects RX0 yX0_cutTiles yX0_cutTiles, Cond.code yX0_cutTiles cX0_cutTiles 3 none, Cond.methodLink RX0 43 yX0_cells, Cond.instanceMethod yX0_cells, Cond.selects RX0 yX0_cells yX0_cells, Cond.code yX0_cells cX0_cells 1 (some .int), Cond.methodLink RX0 76 yX0_cutSide, Cond.instanceMethod yX0_cutSide, Cond.selects RX0 yX0_cutSide yX0_cutSide, Cond.code yX0_cutSide cX0_cutSide 8 none, Cond.methodLink RX0 80 yX0_neighbor, Cond.instanceMethod yX0_neighbor, Cond.selects RX0 yX0_neighbor yX0_neighbor, Cond.code yX0_neighbor cX0_neighbor 4 (some .int), Cond.methodLink RX0 83 yX1_next, Cond.instanceMethod yX1_next, Cond.selects RX1 yX1_next yX1_next, Cond.code yX1_next cX1_next 2 (some .int), Cond.static yX6_opposite, Cond.initialized RX6, Cond.code yX6_opposite cX6_opposite 1 (some .int), Cond.methodLink RX0 67 yX0_makeWays, Cond.instanceMethod yX0_makeWays, Cond.selects RX0 yX0_makeWays yX0_makeWays]
def wsX6_cut_r4 : List Cond := [Cond.code yX0_makeWays cX0_makeWays 4 none, Cond.static yX6_turnedOver, Cond.code yX6_turnedOver cX6_turnedOver 5 (some .int), Cond.methodLink RX6 296 yX6_colorsAt, Cond.static yX6_colorsAt, Cond.code yX6_colorsAt cX6_colorsAt 2 (some .int), Cond.constant RX6 321 (983055), Cond.methodLink RX6 322 yX6_seenFromBehind, Cond.static yX6_seenFromBehind, Cond.code yX6_seenFromBehind cX6_seenFromBehind 1 (some .int), Cond.static yX6_turned, Cond.code yX6_turned cX6_turned 3 (some .int)]
def wsX6_cut : List Cond := .code yX6_cut cX6_cut 3 (some .int) :: ((wsX6_cut_r1 ++ (wsX6_cut_r2 ++ (wsX6_cut_r3 ++ wsX6_cut_r4))) ++ wsX60 ++ wsX00 ++ wsX20 ++ wsX10 ++ (vx_atS RX6 59 "java/lang/IllegalArgumentException" ["java/lang/RuntimeException", "java/lang/Exception"]).filter goodWord)
def wsX6_requireCell : List Cond := .code yX6_requireCell cX6_requireCell 2 none :: ([.classLink RX6 212 "java/lang/IndexOutOfBoundsException", .initialized "java/lang/IndexOutOfBoundsException", .fieldLink RX6 12 "TwoFacedTiles" "board" "LTwoFacedTiles$Board;", .methodLink RX6 267 yX0_hasCell, .instanceMethod yX0_hasCell, .selects RX0 yX0_hasCell yX0_hasCell, .initialized RX0, .code yX0_hasCell cX0_hasCell 2 (some .boolean), .methodLink RX0 43 yX0_cells, .instanceMethod yX0_cells, .selects RX0 yX0_cells yX0_cells, .code yX0_cells cX0_cells 1 (some .int), .fieldLink RX0 9 "TwoFacedTiles$Board" "rows" "I", .fieldLink RX0 15 "TwoFacedTiles$Board" "columns" "I"] ++ wsX60 ++ wsX00 ++ (vx_atS RX6 216 "java/lang/IndexOutOfBoundsException" ["java/lang/RuntimeException", "java/lang/Exception"]).filter goodWord)
def wsX6_requirePlacing : List Cond := .code yX6_requirePlacing cX6_requirePlacing 3 none :: ([.classLink RX6 212 "java/lang/IndexOutOfBoundsException", .initialized "java/lang/IndexOutOfBoundsException", .fieldLink RX6 12 "TwoFacedTiles" "board" "LTwoFacedTiles$Board;", .methodLink RX6 126 yX6_requireCell, .instanceMethod yX6_requireCell, .selects RX6 yX6_requireCell yX6_requireCell, .initialized RX6, .code yX6_requireCell cX6_requireCell 2 none, .methodLink RX6 267 yX0_hasCell, .instanceMethod yX0_hasCell, .selects RX0 yX0_hasCell yX0_hasCell, .initialized RX0, .code yX0_hasCell cX0_hasCell 2 (some .boolean), .methodLink RX0 43 yX0_cells, .instanceMethod yX0_cells, .selects RX0 yX0_cells yX0_cells, .code yX0_cells cX0_cells 1 (some .int), .fieldLink RX0 9 "TwoFacedTiles$Board" "rows" "I", .fieldLink RX0 15 "TwoFacedTiles$Board" "columns" "I", .methodLink RX6 272 yX0_hasPlacing, .instanceMethod yX0_hasPlacing, .selects RX0 yX0_hasPlacing yX0_hasPlacing, .code yX0_hasPlacing cX0_hasPlacing 2 (some .boolean), .fieldLink RX0 21 "TwoFacedTiles$Board" "tiles" "I"] ++ wsX60 ++ wsX00 ++ (vx_atS RX6 216 "java/lang/IndexOutOfBoundsException" ["java/lang/RuntimeException", "java/lang/Exception"]).filter goodWord)
def wsX6_reason_r1 : List Cond := [Cond.fieldLink RX6 12 "TwoFacedTiles" "board" "LTwoFacedTiles$Board;", Cond.fieldLink RX6 33 "TwoFacedTiles" "needs" "LTwoFacedTiles$Needs;", Cond.fieldLink RX6 278 "TwoFacedTiles$Board" "looks" "[I", Cond.methodLink RX6 130 yX0_isEmpty, Cond.instanceMethod yX0_isEmpty, Cond.selects RX0 yX0_isEmpty yX0_isEmpty, Cond.initialized RX0, Cond.code yX0_isEmpty cX0_isEmpty 2 (some .boolean), Cond.fieldLink RX0 27 "TwoFacedTiles$Board" "placings" "[I", Cond.methodLink RX6 84 yX0_isLaid, Cond.instanceMethod yX0_isLaid, Cond.selects RX0 yX0_isLaid yX0_isLaid, Cond.code yX0_isLaid cX0_isLaid 2 (some .boolean), Cond.fieldLink RX0 31 "TwoFacedTiles$Board" "places" "[I", Cond.methodLink RX6 275 yX3_read, Cond.instanceMethod yX3_read, Cond.selects RX3 yX3_read yX3_read, Cond.initialized RX3, Cond.code yX3_read cX3_read 6 none, Cond.fieldLink RX3 9 "TwoFacedTiles$Needs" "mustBeZero" "I", Cond.fieldLink RX3 15 "TwoFacedTiles$Needs" "mustAgree" "I", Cond.fieldLink RX3 18 "TwoFacedTiles$Needs" "wanted" "I", Cond.fieldLink RX3 21 "TwoFacedTiles$Needs" "forbiddenZero" "Z", Cond.fieldLink RX3 25 "TwoFacedTiles$Board" "rule" "I"]
def wsX6_reason_r2 : List Cond := [Cond.methodLink RX3 30 yX3_ruledColors, Cond.static yX3_ruledColors, Cond.code yX3_ruledColors cX3_ruledColors 1 (some .int), Cond.constant RX3 55 (983055), Cond.methodLink RX3 34 yX0_neighbor, Cond.instanceMethod yX0_neighbor, Cond.selects RX0 yX0_neighbor yX0_neighbor, Cond.code yX0_neighbor cX0_neighbor 4 (some .int), Cond.fieldLink RX0 15 "TwoFacedTiles$Board" "columns" "I", Cond.methodLink RX0 43 yX0_cells, Cond.instanceMethod yX0_cells, Cond.selects RX0 yX0_cells yX0_cells, Cond.code yX0_cells cX0_cells 1 (some .int), Cond.fieldLink RX0 9 "TwoFacedTiles$Board" "rows" "I", Cond.methodLink RX3 38 yX0_isEmpty, Cond.methodLink RX3 42 yX0_lookIn, Cond.instanceMethod yX0_lookIn, Cond.selects RX0 yX0_lookIn yX0_lookIn, Cond.code yX0_lookIn cX0_lookIn 2 (some .int), Cond.fieldLink RX0 34 "TwoFacedTiles$Board" "looks" "[I", Cond.static yX6_opposite, Cond.initialized RX6, Cond.code yX6_opposite cX6_opposite 1 (some .int), Cond.static yX6_colorsAt]
def wsX6_reason_r3 : List Cond := [Cond.code yX6_colorsAt cX6_colorsAt 2 (some .int), Cond.constant RX6 321 (983055), Cond.methodLink RX3 51 yX3_readNeighbor, Cond.instanceMethod yX3_readNeighbor, Cond.selects RX3 yX3_readNeighbor yX3_readNeighbor, Cond.code yX3_readNeighbor cX3_readNeighbor 4 none, Cond.constant RX3 56 (983040), Cond.methodLink RX6 281 yX3_reasonAgainst, Cond.instanceMethod yX3_reasonAgainst, Cond.selects RX3 yX3_reasonAgainst yX3_reasonAgainst, Cond.code yX3_reasonAgainst cX3_reasonAgainst 3 (some .int), Cond.constant RX3 57 (65535)]
def wsX6_reason : List Cond := .code yX6_reason cX6_reason 3 (some .int) :: ((wsX6_reason_r1 ++ (wsX6_reason_r2 ++ wsX6_reason_r3)) ++ wsX60 ++ wsX00 ++ wsX30)
def wsX6_lay_r1 : List Cond := [Cond.classLink RX6 76 "java/lang/IllegalStateException", Cond.initialized "java/lang/IllegalStateException", Cond.fieldLink RX6 19 "TwoFacedTiles" "history" "LTwoFacedTiles$History;", Cond.fieldLink RX6 12 "TwoFacedTiles" "board" "LTwoFacedTiles$Board;", Cond.methodLink RX6 111 yX6_requirePlacing, Cond.instanceMethod yX6_requirePlacing, Cond.selects RX6 yX6_requirePlacing yX6_requirePlacing, Cond.initialized RX6, Cond.code yX6_requirePlacing cX6_requirePlacing 3 none, Cond.classLink RX6 212 "java/lang/IndexOutOfBoundsException", Cond.initialized "java/lang/IndexOutOfBoundsException", Cond.methodLink RX6 126 yX6_requireCell, Cond.instanceMethod yX6_requireCell, Cond.selects RX6 yX6_requireCell yX6_requireCell, Cond.code yX6_requireCell cX6_requireCell 2 none, Cond.methodLink RX6 267 yX0_hasCell, Cond.instanceMethod yX0_hasCell, Cond.selects RX0 yX0_hasCell yX0_hasCell, Cond.initialized RX0, Cond.code yX0_hasCell cX0_hasCell 2 (some .boolean), Cond.methodLink RX0 43 yX0_cells, Cond.instanceMethod yX0_cells, Cond.selects RX0 yX0_cells yX0_cells, Cond.code yX0_cells cX0_cells 1 (some .int)]
def wsX6_lay_r2 : List Cond := [Cond.fieldLink RX0 9 "TwoFacedTiles$Board" "rows" "I", Cond.fieldLink RX0 15 "TwoFacedTiles$Board" "columns" "I", Cond.methodLink RX6 272 yX0_hasPlacing, Cond.instanceMethod yX0_hasPlacing, Cond.selects RX0 yX0_hasPlacing yX0_hasPlacing, Cond.code yX0_hasPlacing cX0_hasPlacing 2 (some .boolean), Cond.fieldLink RX0 21 "TwoFacedTiles$Board" "tiles" "I", Cond.methodLink RX6 114 yX6_reason, Cond.instanceMethod yX6_reason, Cond.selects RX6 yX6_reason yX6_reason, Cond.code yX6_reason cX6_reason 3 (some .int), Cond.fieldLink RX6 33 "TwoFacedTiles" "needs" "LTwoFacedTiles$Needs;", Cond.fieldLink RX6 278 "TwoFacedTiles$Board" "looks" "[I", Cond.methodLink RX6 130 yX0_isEmpty, Cond.instanceMethod yX0_isEmpty, Cond.selects RX0 yX0_isEmpty yX0_isEmpty, Cond.code yX0_isEmpty cX0_isEmpty 2 (some .boolean), Cond.fieldLink RX0 27 "TwoFacedTiles$Board" "placings" "[I", Cond.methodLink RX6 84 yX0_isLaid, Cond.instanceMethod yX0_isLaid, Cond.selects RX0 yX0_isLaid yX0_isLaid, Cond.code yX0_isLaid cX0_isLaid 2 (some .boolean), Cond.fieldLink RX0 31 "TwoFacedTiles$Board" "places" "[I", Cond.methodLink RX6 275 yX3_read]
def wsX6_lay_r3 : List Cond := [Cond.instanceMethod yX3_read, Cond.selects RX3 yX3_read yX3_read, Cond.initialized RX3, Cond.code yX3_read cX3_read 6 none, Cond.fieldLink RX3 9 "TwoFacedTiles$Needs" "mustBeZero" "I", Cond.fieldLink RX3 15 "TwoFacedTiles$Needs" "mustAgree" "I", Cond.fieldLink RX3 18 "TwoFacedTiles$Needs" "wanted" "I", Cond.fieldLink RX3 21 "TwoFacedTiles$Needs" "forbiddenZero" "Z", Cond.fieldLink RX3 25 "TwoFacedTiles$Board" "rule" "I", Cond.methodLink RX3 30 yX3_ruledColors, Cond.static yX3_ruledColors, Cond.code yX3_ruledColors cX3_ruledColors 1 (some .int), Cond.constant RX3 55 (983055), Cond.methodLink RX3 34 yX0_neighbor, Cond.instanceMethod yX0_neighbor, Cond.selects RX0 yX0_neighbor yX0_neighbor, Cond.code yX0_neighbor cX0_neighbor 4 (some .int), Cond.methodLink RX3 38 yX0_isEmpty, Cond.methodLink RX3 42 yX0_lookIn, Cond.instanceMethod yX0_lookIn, Cond.selects RX0 yX0_lookIn yX0_lookIn, Cond.code yX0_lookIn cX0_lookIn 2 (some .int), Cond.fieldLink RX0 34 "TwoFacedTiles$Board" "looks" "[I", Cond.static yX6_opposite]
def wsX6_lay_r4 : List Cond := [Cond.code yX6_opposite cX6_opposite 1 (some .int), Cond.static yX6_colorsAt, Cond.code yX6_colorsAt cX6_colorsAt 2 (some .int), Cond.constant RX6 321 (983055), Cond.methodLink RX3 51 yX3_readNeighbor, Cond.instanceMethod yX3_readNeighbor, Cond.selects RX3 yX3_readNeighbor yX3_readNeighbor, Cond.code yX3_readNeighbor cX3_readNeighbor 4 none, Cond.constant RX3 56 (983040), Cond.methodLink RX6 281 yX3_reasonAgainst, Cond.instanceMethod yX3_reasonAgainst, Cond.selects RX3 yX3_reasonAgainst yX3_reasonAgainst, Cond.code yX3_reasonAgainst cX3_reasonAgainst 3 (some .int), Cond.constant RX3 57 (65535), Cond.methodLink RX6 62 yX2_save, Cond.instanceMethod yX2_save, Cond.selects RX2 yX2_save yX2_save, Cond.initialized RX2, Cond.code yX2_save cX2_save 2 none, Cond.fieldLink RX2 21 "TwoFacedTiles$History" "kept" "I", Cond.fieldLink RX2 17 "TwoFacedTiles$History" "oldest" "I", Cond.fieldLink RX2 11 "TwoFacedTiles$History" "states" "[LTwoFacedTiles$Board;", Cond.methodLink RX2 25 yX0_copyFrom, Cond.instanceMethod yX0_copyFrom]
def wsX6_lay_r5 : List Cond := [Cond.selects RX0 yX0_copyFrom yX0_copyFrom, Cond.code yX0_copyFrom cX0_copyFrom 2 none, Cond.fieldLink RX0 18 "TwoFacedTiles$Board" "rule" "I", Cond.fieldLink RX0 24 "TwoFacedTiles$Board" "fixed" "I", Cond.methodLink RX0 37 arraycopyName, Cond.native arraycopyName, Cond.static arraycopyName, Cond.initialized "java/lang/System", Cond.methodLink RX6 120 yX0_put, Cond.instanceMethod yX0_put, Cond.selects RX0 yX0_put yX0_put, Cond.code yX0_put cX0_put 3 none, Cond.methodLink RX6 123 yX0_emptyCells, Cond.instanceMethod yX0_emptyCells, Cond.selects RX0 yX0_emptyCells yX0_emptyCells, Cond.code yX0_emptyCells cX0_emptyCells 3 (some .int), Cond.methodLink RX0 47 yX0_isEmpty]
def wsX6_lay : List Cond := .code yX6_lay cX6_lay 3 (some .int) :: ((wsX6_lay_r1 ++ (wsX6_lay_r2 ++ (wsX6_lay_r3 ++ (wsX6_lay_r4 ++ wsX6_lay_r5)))) ++ wsX60 ++ wsX00 ++ wsX30 ++ wsX20 ++ (vx_atS RX6 80 "java/lang/IllegalStateException" ["java/lang/RuntimeException", "java/lang/Exception"]).filter goodWord ++ (vx_atS RX6 216 "java/lang/IndexOutOfBoundsException" ["java/lang/RuntimeException", "java/lang/Exception"]).filter goodWord)
def wsX6_take_r1 : List Cond := [Cond.classLink RX6 76 "java/lang/IllegalStateException", Cond.initialized "java/lang/IllegalStateException", Cond.fieldLink RX6 12 "TwoFacedTiles" "board" "LTwoFacedTiles$Board;", Cond.fieldLink RX6 19 "TwoFacedTiles" "history" "LTwoFacedTiles$History;", Cond.fieldLink RX6 138 "TwoFacedTiles$Board" "placings" "[I", Cond.methodLink RX6 126 yX6_requireCell, Cond.instanceMethod yX6_requireCell, Cond.selects RX6 yX6_requireCell yX6_requireCell, Cond.initialized RX6, Cond.code yX6_requireCell cX6_requireCell 2 none, Cond.classLink RX6 212 "java/lang/IndexOutOfBoundsException", Cond.initialized "java/lang/IndexOutOfBoundsException", Cond.methodLink RX6 267 yX0_hasCell, Cond.instanceMethod yX0_hasCell, Cond.selects RX0 yX0_hasCell yX0_hasCell, Cond.initialized RX0, Cond.code yX0_hasCell cX0_hasCell 2 (some .boolean), Cond.methodLink RX0 43 yX0_cells, Cond.instanceMethod yX0_cells, Cond.selects RX0 yX0_cells yX0_cells, Cond.code yX0_cells cX0_cells 1 (some .int), Cond.fieldLink RX0 9 "TwoFacedTiles$Board" "rows" "I", Cond.fieldLink RX0 15 "TwoFacedTiles$Board" "columns" "I", Cond.methodLink RX6 130 yX0_isEmpty]
def wsX6_take_r2 : List Cond := [Cond.instanceMethod yX0_isEmpty, Cond.selects RX0 yX0_isEmpty yX0_isEmpty, Cond.code yX0_isEmpty cX0_isEmpty 2 (some .boolean), Cond.fieldLink RX0 27 "TwoFacedTiles$Board" "placings" "[I", Cond.methodLink RX6 133 yX0_isFixed, Cond.instanceMethod yX0_isFixed, Cond.selects RX0 yX0_isFixed yX0_isFixed, Cond.code yX0_isFixed cX0_isFixed 2 (some .boolean), Cond.fieldLink RX0 24 "TwoFacedTiles$Board" "fixed" "I", Cond.methodLink RX6 62 yX2_save, Cond.instanceMethod yX2_save, Cond.selects RX2 yX2_save yX2_save, Cond.initialized RX2, Cond.code yX2_save cX2_save 2 none, Cond.fieldLink RX2 21 "TwoFacedTiles$History" "kept" "I", Cond.fieldLink RX2 17 "TwoFacedTiles$History" "oldest" "I", Cond.fieldLink RX2 11 "TwoFacedTiles$History" "states" "[LTwoFacedTiles$Board;", Cond.methodLink RX2 25 yX0_copyFrom, Cond.instanceMethod yX0_copyFrom, Cond.selects RX0 yX0_copyFrom yX0_copyFrom, Cond.code yX0_copyFrom cX0_copyFrom 2 none, Cond.fieldLink RX0 18 "TwoFacedTiles$Board" "rule" "I", Cond.fieldLink RX0 21 "TwoFacedTiles$Board" "tiles" "I", Cond.methodLink RX0 37 arraycopyName]
def wsX6_take_r3 : List Cond := [Cond.native arraycopyName, Cond.static arraycopyName, Cond.initialized "java/lang/System", Cond.fieldLink RX0 31 "TwoFacedTiles$Board" "places" "[I", Cond.fieldLink RX0 34 "TwoFacedTiles$Board" "looks" "[I", Cond.methodLink RX6 142 yX0_remove, Cond.instanceMethod yX0_remove, Cond.selects RX0 yX0_remove yX0_remove, Cond.code yX0_remove cX0_remove 2 none]
def wsX6_take : List Cond := .code yX6_take cX6_take 3 (some .int) :: ((wsX6_take_r1 ++ (wsX6_take_r2 ++ wsX6_take_r3)) ++ wsX60 ++ wsX00 ++ wsX20 ++ (vx_atS RX6 80 "java/lang/IllegalStateException" ["java/lang/RuntimeException", "java/lang/Exception"]).filter goodWord ++ (vx_atS RX6 216 "java/lang/IndexOutOfBoundsException" ["java/lang/RuntimeException", "java/lang/Exception"]).filter goodWord)
def wsX6_fix_r1 : List Cond := [Cond.classLink RX6 76 "java/lang/IllegalStateException", Cond.initialized "java/lang/IllegalStateException", Cond.fieldLink RX6 12 "TwoFacedTiles" "board" "LTwoFacedTiles$Board;", Cond.fieldLink RX6 19 "TwoFacedTiles" "history" "LTwoFacedTiles$History;", Cond.fieldLink RX6 147 "TwoFacedTiles$Board" "fixed" "I", Cond.methodLink RX6 126 yX6_requireCell, Cond.instanceMethod yX6_requireCell, Cond.selects RX6 yX6_requireCell yX6_requireCell, Cond.initialized RX6, Cond.code yX6_requireCell cX6_requireCell 2 none, Cond.classLink RX6 212 "java/lang/IndexOutOfBoundsException", Cond.initialized "java/lang/IndexOutOfBoundsException", Cond.methodLink RX6 267 yX0_hasCell, Cond.instanceMethod yX0_hasCell, Cond.selects RX0 yX0_hasCell yX0_hasCell, Cond.initialized RX0, Cond.code yX0_hasCell cX0_hasCell 2 (some .boolean), Cond.methodLink RX0 43 yX0_cells, Cond.instanceMethod yX0_cells, Cond.selects RX0 yX0_cells yX0_cells, Cond.code yX0_cells cX0_cells 1 (some .int), Cond.fieldLink RX0 9 "TwoFacedTiles$Board" "rows" "I", Cond.fieldLink RX0 15 "TwoFacedTiles$Board" "columns" "I", Cond.methodLink RX6 130 yX0_isEmpty]
def wsX6_fix_r2 : List Cond := [Cond.instanceMethod yX0_isEmpty, Cond.selects RX0 yX0_isEmpty yX0_isEmpty, Cond.code yX0_isEmpty cX0_isEmpty 2 (some .boolean), Cond.fieldLink RX0 27 "TwoFacedTiles$Board" "placings" "[I", Cond.methodLink RX6 62 yX2_save, Cond.instanceMethod yX2_save, Cond.selects RX2 yX2_save yX2_save, Cond.initialized RX2, Cond.code yX2_save cX2_save 2 none, Cond.fieldLink RX2 21 "TwoFacedTiles$History" "kept" "I", Cond.fieldLink RX2 17 "TwoFacedTiles$History" "oldest" "I", Cond.fieldLink RX2 11 "TwoFacedTiles$History" "states" "[LTwoFacedTiles$Board;", Cond.methodLink RX2 25 yX0_copyFrom, Cond.instanceMethod yX0_copyFrom, Cond.selects RX0 yX0_copyFrom yX0_copyFrom, Cond.code yX0_copyFrom cX0_copyFrom 2 none, Cond.fieldLink RX0 18 "TwoFacedTiles$Board" "rule" "I", Cond.fieldLink RX0 21 "TwoFacedTiles$Board" "tiles" "I", Cond.fieldLink RX0 24 "TwoFacedTiles$Board" "fixed" "I", Cond.methodLink RX0 37 arraycopyName, Cond.native arraycopyName, Cond.static arraycopyName, Cond.initialized "java/lang/System", Cond.fieldLink RX0 31 "TwoFacedTiles$Board" "places" "[I"]
def wsX6_fix_r3 : List Cond := [Cond.fieldLink RX0 34 "TwoFacedTiles$Board" "looks" "[I", Cond.methodLink RX6 133 yX0_isFixed, Cond.instanceMethod yX0_isFixed, Cond.selects RX0 yX0_isFixed yX0_isFixed, Cond.code yX0_isFixed cX0_isFixed 2 (some .boolean)]
def wsX6_fix : List Cond := .code yX6_fix cX6_fix 2 (some .int) :: ((wsX6_fix_r1 ++ (wsX6_fix_r2 ++ wsX6_fix_r3)) ++ wsX60 ++ wsX00 ++ wsX20 ++ (vx_atS RX6 80 "java/lang/IllegalStateException" ["java/lang/RuntimeException", "java/lang/Exception"]).filter goodWord ++ (vx_atS RX6 216 "java/lang/IndexOutOfBoundsException" ["java/lang/RuntimeException", "java/lang/Exception"]).filter goodWord)
def wsX6_clear_r1 : List Cond := [Cond.fieldLink RX6 19 "TwoFacedTiles" "history" "LTwoFacedTiles$History;", Cond.fieldLink RX6 12 "TwoFacedTiles" "board" "LTwoFacedTiles$Board;", Cond.fieldLink RX6 147 "TwoFacedTiles$Board" "fixed" "I", Cond.methodLink RX6 62 yX2_save, Cond.instanceMethod yX2_save, Cond.selects RX2 yX2_save yX2_save, Cond.initialized RX2, Cond.code yX2_save cX2_save 2 none, Cond.fieldLink RX2 21 "TwoFacedTiles$History" "kept" "I", Cond.fieldLink RX2 17 "TwoFacedTiles$History" "oldest" "I", Cond.fieldLink RX2 11 "TwoFacedTiles$History" "states" "[LTwoFacedTiles$Board;", Cond.methodLink RX2 25 yX0_copyFrom, Cond.instanceMethod yX0_copyFrom, Cond.selects RX0 yX0_copyFrom yX0_copyFrom, Cond.initialized RX0, Cond.code yX0_copyFrom cX0_copyFrom 2 none, Cond.fieldLink RX0 9 "TwoFacedTiles$Board" "rows" "I", Cond.fieldLink RX0 15 "TwoFacedTiles$Board" "columns" "I", Cond.fieldLink RX0 18 "TwoFacedTiles$Board" "rule" "I", Cond.fieldLink RX0 21 "TwoFacedTiles$Board" "tiles" "I", Cond.fieldLink RX0 24 "TwoFacedTiles$Board" "fixed" "I", Cond.fieldLink RX0 27 "TwoFacedTiles$Board" "placings" "[I", Cond.methodLink RX0 37 arraycopyName, Cond.native arraycopyName]
def wsX6_clear_r2 : List Cond := [Cond.static arraycopyName, Cond.initialized "java/lang/System", Cond.fieldLink RX0 31 "TwoFacedTiles$Board" "places" "[I", Cond.fieldLink RX0 34 "TwoFacedTiles$Board" "looks" "[I", Cond.methodLink RX6 150 yX0_removeAllBut, Cond.instanceMethod yX0_removeAllBut, Cond.selects RX0 yX0_removeAllBut yX0_removeAllBut, Cond.code yX0_removeAllBut cX0_removeAllBut 4 (some .int), Cond.methodLink RX0 43 yX0_cells, Cond.instanceMethod yX0_cells, Cond.selects RX0 yX0_cells yX0_cells, Cond.code yX0_cells cX0_cells 1 (some .int), Cond.methodLink RX0 47 yX0_isEmpty, Cond.instanceMethod yX0_isEmpty, Cond.selects RX0 yX0_isEmpty yX0_isEmpty, Cond.code yX0_isEmpty cX0_isEmpty 2 (some .boolean), Cond.methodLink RX0 51 yX0_remove, Cond.instanceMethod yX0_remove, Cond.selects RX0 yX0_remove yX0_remove, Cond.code yX0_remove cX0_remove 2 none]
def wsX6_clear : List Cond := .code yX6_clear cX6_clear 1 (some .int) :: ((wsX6_clear_r1 ++ wsX6_clear_r2) ++ wsX60 ++ wsX00 ++ wsX20)
def wsX6_turnOver_r1 : List Cond := [Cond.fieldLink RX6 19 "TwoFacedTiles" "history" "LTwoFacedTiles$History;", Cond.fieldLink RX6 12 "TwoFacedTiles" "board" "LTwoFacedTiles$Board;", Cond.methodLink RX6 62 yX2_save, Cond.instanceMethod yX2_save, Cond.selects RX2 yX2_save yX2_save, Cond.initialized RX2, Cond.code yX2_save cX2_save 2 none, Cond.fieldLink RX2 21 "TwoFacedTiles$History" "kept" "I", Cond.fieldLink RX2 17 "TwoFacedTiles$History" "oldest" "I", Cond.fieldLink RX2 11 "TwoFacedTiles$History" "states" "[LTwoFacedTiles$Board;", Cond.methodLink RX2 25 yX0_copyFrom, Cond.instanceMethod yX0_copyFrom, Cond.selects RX0 yX0_copyFrom yX0_copyFrom, Cond.initialized RX0, Cond.code yX0_copyFrom cX0_copyFrom 2 none, Cond.fieldLink RX0 9 "TwoFacedTiles$Board" "rows" "I", Cond.fieldLink RX0 15 "TwoFacedTiles$Board" "columns" "I", Cond.fieldLink RX0 18 "TwoFacedTiles$Board" "rule" "I", Cond.fieldLink RX0 21 "TwoFacedTiles$Board" "tiles" "I", Cond.fieldLink RX0 24 "TwoFacedTiles$Board" "fixed" "I", Cond.fieldLink RX0 27 "TwoFacedTiles$Board" "placings" "[I", Cond.methodLink RX0 37 arraycopyName, Cond.native arraycopyName, Cond.static arraycopyName]
def wsX6_turnOver_r2 : List Cond := [Cond.initialized "java/lang/System", Cond.fieldLink RX0 31 "TwoFacedTiles$Board" "places" "[I", Cond.fieldLink RX0 34 "TwoFacedTiles$Board" "looks" "[I", Cond.methodLink RX6 154 yX0_mirror, Cond.instanceMethod yX0_mirror, Cond.selects RX0 yX0_mirror yX0_mirror, Cond.code yX0_mirror cX0_mirror 6 none, Cond.methodLink RX0 55 yX0_swapTurnedOver, Cond.instanceMethod yX0_swapTurnedOver, Cond.selects RX0 yX0_swapTurnedOver yX0_swapTurnedOver, Cond.code yX0_swapTurnedOver cX0_swapTurnedOver 4 none, Cond.static yX6_placingTurnedOver, Cond.initialized RX6, Cond.code yX6_placingTurnedOver cX6_placingTurnedOver 4 (some .int), Cond.methodLink RX0 43 yX0_cells, Cond.instanceMethod yX0_cells, Cond.selects RX0 yX0_cells yX0_cells, Cond.code yX0_cells cX0_cells 1 (some .int), Cond.methodLink RX0 47 yX0_isEmpty, Cond.instanceMethod yX0_isEmpty, Cond.selects RX0 yX0_isEmpty yX0_isEmpty, Cond.code yX0_isEmpty cX0_isEmpty 2 (some .boolean), Cond.methodLink RX6 66 yX0_cells, Cond.methodLink RX6 123 yX0_emptyCells]
def wsX6_turnOver_r3 : List Cond := [Cond.instanceMethod yX0_emptyCells, Cond.selects RX0 yX0_emptyCells yX0_emptyCells, Cond.code yX0_emptyCells cX0_emptyCells 3 (some .int)]
def wsX6_turnOver : List Cond := .code yX6_turnOver cX6_turnOver 1 (some .int) :: ((wsX6_turnOver_r1 ++ (wsX6_turnOver_r2 ++ wsX6_turnOver_r3)) ++ wsX60 ++ wsX20 ++ wsX00)
def wsX6_solve_r1 : List Cond := [Cond.classLink RX6 76 "java/lang/IllegalStateException", Cond.initialized "java/lang/IllegalStateException", Cond.fieldLink RX6 40 "TwoFacedTiles" "search" "LTwoFacedTiles$Search;", Cond.fieldLink RX6 12 "TwoFacedTiles" "board" "LTwoFacedTiles$Board;", Cond.fieldLink RX6 161 "TwoFacedTiles$Search" "found" "I", Cond.fieldLink RX6 19 "TwoFacedTiles" "history" "LTwoFacedTiles$History;", Cond.fieldLink RX6 166 "TwoFacedTiles$Search" "trial" "LTwoFacedTiles$Board;", Cond.methodLink RX6 157 yX4_run, Cond.instanceMethod yX4_run, Cond.selects RX4 yX4_run yX4_run, Cond.initialized RX4, Cond.code yX4_run cX4_run 3 none, Cond.fieldLink RX4 12 "TwoFacedTiles$Search" "trial" "LTwoFacedTiles$Board;", Cond.methodLink RX4 42 yX0_copyFrom, Cond.instanceMethod yX0_copyFrom, Cond.selects RX0 yX0_copyFrom yX0_copyFrom, Cond.initialized RX0, Cond.code yX0_copyFrom cX0_copyFrom 2 none, Cond.fieldLink RX0 9 "TwoFacedTiles$Board" "rows" "I", Cond.fieldLink RX0 15 "TwoFacedTiles$Board" "columns" "I", Cond.fieldLink RX0 18 "TwoFacedTiles$Board" "rule" "I", Cond.fieldLink RX0 21 "TwoFacedTiles$Board" "tiles" "I", Cond.fieldLink RX0 24 "TwoFacedTiles$Board" "fixed" "I", Cond.fieldLink RX0 27 "TwoFacedTiles$Board" "placings" "[I"]
def wsX6_solve_r2 : List Cond := [Cond.methodLink RX0 37 arraycopyName, Cond.native arraycopyName, Cond.static arraycopyName, Cond.initialized "java/lang/System", Cond.fieldLink RX0 31 "TwoFacedTiles$Board" "places" "[I", Cond.fieldLink RX0 34 "TwoFacedTiles$Board" "looks" "[I", Cond.methodLink RX4 46 yX4_runTrial, Cond.instanceMethod yX4_runTrial, Cond.selects RX4 yX4_runTrial yX4_runTrial, Cond.code yX4_runTrial cX4_runTrial 2 none, Cond.fieldLink RX4 28 "TwoFacedTiles$Search" "most" "I", Cond.fieldLink RX4 18 "TwoFacedTiles$Search" "found" "I", Cond.fieldLink RX4 31 "TwoFacedTiles$Search" "steps" "I", Cond.fieldLink RX4 34 "TwoFacedTiles$Search" "tooManySteps" "Z", Cond.fieldLink RX4 38 "TwoFacedTiles$Search" "over" "Z", Cond.methodLink RX4 54 yX4_fillFrom, Cond.instanceMethod yX4_fillFrom, Cond.selects RX4 yX4_fillFrom yX4_fillFrom, Cond.code yX4_fillFrom cX4_fillFrom 7 none, Cond.fieldLink RX4 24 "TwoFacedTiles$Search" "needs" "[LTwoFacedTiles$Needs;", Cond.fieldLink RX4 69 "TwoFacedTiles$Board" "tiles" "I", Cond.fieldLink RX4 75 "TwoFacedTiles$Board" "looks" "[I", Cond.methodLink RX4 57 yX0_cells, Cond.instanceMethod yX0_cells]
def wsX6_solve_r3 : List Cond := [Cond.selects RX0 yX0_cells yX0_cells, Cond.code yX0_cells cX0_cells 1 (some .int), Cond.methodLink RX4 61 yX0_isEmpty, Cond.instanceMethod yX0_isEmpty, Cond.selects RX0 yX0_isEmpty yX0_isEmpty, Cond.code yX0_isEmpty cX0_isEmpty 2 (some .boolean), Cond.methodLink RX4 65 yX3_read, Cond.instanceMethod yX3_read, Cond.selects RX3 yX3_read yX3_read, Cond.initialized RX3, Cond.code yX3_read cX3_read 6 none, Cond.fieldLink RX3 9 "TwoFacedTiles$Needs" "mustBeZero" "I", Cond.fieldLink RX3 15 "TwoFacedTiles$Needs" "mustAgree" "I", Cond.fieldLink RX3 18 "TwoFacedTiles$Needs" "wanted" "I", Cond.fieldLink RX3 21 "TwoFacedTiles$Needs" "forbiddenZero" "Z", Cond.fieldLink RX3 25 "TwoFacedTiles$Board" "rule" "I", Cond.methodLink RX3 30 yX3_ruledColors, Cond.static yX3_ruledColors, Cond.code yX3_ruledColors cX3_ruledColors 1 (some .int), Cond.constant RX3 55 (983055), Cond.methodLink RX3 34 yX0_neighbor, Cond.instanceMethod yX0_neighbor, Cond.selects RX0 yX0_neighbor yX0_neighbor, Cond.code yX0_neighbor cX0_neighbor 4 (some .int)]
def wsX6_solve_r4 : List Cond := [Cond.methodLink RX0 43 yX0_cells, Cond.methodLink RX3 38 yX0_isEmpty, Cond.methodLink RX3 42 yX0_lookIn, Cond.instanceMethod yX0_lookIn, Cond.selects RX0 yX0_lookIn yX0_lookIn, Cond.code yX0_lookIn cX0_lookIn 2 (some .int), Cond.static yX6_opposite, Cond.initialized RX6, Cond.code yX6_opposite cX6_opposite 1 (some .int), Cond.static yX6_colorsAt, Cond.code yX6_colorsAt cX6_colorsAt 2 (some .int), Cond.constant RX6 321 (983055), Cond.methodLink RX3 51 yX3_readNeighbor, Cond.instanceMethod yX3_readNeighbor, Cond.selects RX3 yX3_readNeighbor yX3_readNeighbor, Cond.code yX3_readNeighbor cX3_readNeighbor 4 none, Cond.constant RX3 56 (983040), Cond.methodLink RX4 72 yX0_isLaid, Cond.instanceMethod yX0_isLaid, Cond.selects RX0 yX0_isLaid yX0_isLaid, Cond.code yX0_isLaid cX0_isLaid 2 (some .boolean), Cond.methodLink RX4 79 yX3_reasonAgainst, Cond.instanceMethod yX3_reasonAgainst, Cond.selects RX3 yX3_reasonAgainst yX3_reasonAgainst]
def wsX6_solve_r5 : List Cond := [Cond.code yX3_reasonAgainst cX3_reasonAgainst 3 (some .int), Cond.constant RX3 57 (65535), Cond.methodLink RX4 82 yX4_tryPlacing, Cond.instanceMethod yX4_tryPlacing, Cond.selects RX4 yX4_tryPlacing yX4_tryPlacing, Cond.code yX4_tryPlacing cX4_tryPlacing 3 none, Cond.methodLink RX4 86 yX0_put, Cond.instanceMethod yX0_put, Cond.selects RX0 yX0_put yX0_put, Cond.code yX0_put cX0_put 3 none, Cond.methodLink RX4 89 yX0_remove, Cond.instanceMethod yX0_remove, Cond.selects RX0 yX0_remove yX0_remove, Cond.code yX0_remove cX0_remove 2 none, Cond.methodLink RX6 62 yX2_save, Cond.instanceMethod yX2_save, Cond.selects RX2 yX2_save yX2_save, Cond.initialized RX2, Cond.code yX2_save cX2_save 2 none, Cond.fieldLink RX2 21 "TwoFacedTiles$History" "kept" "I", Cond.fieldLink RX2 17 "TwoFacedTiles$History" "oldest" "I", Cond.fieldLink RX2 11 "TwoFacedTiles$History" "states" "[LTwoFacedTiles$Board;", Cond.methodLink RX2 25 yX0_copyFrom, Cond.methodLink RX6 123 yX0_emptyCells]
def wsX6_solve_r6 : List Cond := [Cond.instanceMethod yX0_emptyCells, Cond.selects RX0 yX0_emptyCells yX0_emptyCells, Cond.code yX0_emptyCells cX0_emptyCells 3 (some .int), Cond.methodLink RX0 47 yX0_isEmpty, Cond.methodLink RX6 169 yX0_copyFrom]
def wsX6_solve : List Cond := .code yX6_solve cX6_solve 2 (some .int) :: ((wsX6_solve_r1 ++ (wsX6_solve_r2 ++ (wsX6_solve_r3 ++ (wsX6_solve_r4 ++ (wsX6_solve_r5 ++ wsX6_solve_r6))))) ++ wsX60 ++ wsX40 ++ wsX00 ++ wsX30 ++ wsX20 ++ (vx_atS RX6 80 "java/lang/IllegalStateException" ["java/lang/RuntimeException", "java/lang/Exception"]).filter goodWord)
def wsX6_undo_r1 : List Cond := [Cond.classLink RX6 76 "java/lang/IllegalStateException", Cond.initialized "java/lang/IllegalStateException", Cond.fieldLink RX6 19 "TwoFacedTiles" "history" "LTwoFacedTiles$History;", Cond.fieldLink RX6 199 "TwoFacedTiles$History" "kept" "I", Cond.fieldLink RX6 12 "TwoFacedTiles" "board" "LTwoFacedTiles$Board;", Cond.methodLink RX6 204 yX2_restore, Cond.instanceMethod yX2_restore, Cond.selects RX2 yX2_restore yX2_restore, Cond.initialized RX2, Cond.code yX2_restore cX2_restore 2 none, Cond.fieldLink RX2 21 "TwoFacedTiles$History" "kept" "I", Cond.fieldLink RX2 11 "TwoFacedTiles$History" "states" "[LTwoFacedTiles$Board;", Cond.fieldLink RX2 17 "TwoFacedTiles$History" "oldest" "I", Cond.methodLink RX2 25 yX0_copyFrom, Cond.instanceMethod yX0_copyFrom, Cond.selects RX0 yX0_copyFrom yX0_copyFrom, Cond.initialized RX0, Cond.code yX0_copyFrom cX0_copyFrom 2 none, Cond.fieldLink RX0 9 "TwoFacedTiles$Board" "rows" "I", Cond.fieldLink RX0 15 "TwoFacedTiles$Board" "columns" "I", Cond.fieldLink RX0 18 "TwoFacedTiles$Board" "rule" "I", Cond.fieldLink RX0 21 "TwoFacedTiles$Board" "tiles" "I", Cond.fieldLink RX0 24 "TwoFacedTiles$Board" "fixed" "I", Cond.fieldLink RX0 27 "TwoFacedTiles$Board" "placings" "[I"]
def wsX6_undo_r2 : List Cond := [Cond.methodLink RX0 37 arraycopyName, Cond.native arraycopyName, Cond.static arraycopyName, Cond.initialized "java/lang/System", Cond.fieldLink RX0 31 "TwoFacedTiles$Board" "places" "[I", Cond.fieldLink RX0 34 "TwoFacedTiles$Board" "looks" "[I"]
def wsX6_undo : List Cond := .code yX6_undo cX6_undo 1 (some .int) :: ((wsX6_undo_r1 ++ wsX6_undo_r2) ++ wsX60 ++ wsX20 ++ wsX00 ++ (vx_atS RX6 80 "java/lang/IllegalStateException" ["java/lang/RuntimeException", "java/lang/Exception"]).filter goodWord)
def wsX6_meetsNeeds : List Cond := .code yX6_meetsNeeds cX6_meetsNeeds 2 (some .boolean) :: ([.fieldLink RX6 12 "TwoFacedTiles" "board" "LTwoFacedTiles$Board;", .fieldLink RX6 33 "TwoFacedTiles" "needs" "LTwoFacedTiles$Needs;", .fieldLink RX6 278 "TwoFacedTiles$Board" "looks" "[I", .methodLink RX6 84 yX0_isLaid, .instanceMethod yX0_isLaid, .selects RX0 yX0_isLaid yX0_isLaid, .initialized RX0, .code yX0_isLaid cX0_isLaid 2 (some .boolean), .fieldLink RX0 31 "TwoFacedTiles$Board" "places" "[I", .methodLink RX6 281 yX3_reasonAgainst, .instanceMethod yX3_reasonAgainst, .selects RX3 yX3_reasonAgainst yX3_reasonAgainst, .initialized RX3, .code yX3_reasonAgainst cX3_reasonAgainst 3 (some .int), .fieldLink RX3 9 "TwoFacedTiles$Needs" "mustBeZero" "I", .fieldLink RX3 18 "TwoFacedTiles$Needs" "wanted" "I", .fieldLink RX3 15 "TwoFacedTiles$Needs" "mustAgree" "I", .constant RX3 57 (65535), .fieldLink RX3 21 "TwoFacedTiles$Needs" "forbiddenZero" "Z"] ++ wsX60 ++ wsX00 ++ wsX30)
def wsX6_possibleCount_r1 : List Cond := [Cond.fieldLink RX6 12 "TwoFacedTiles" "board" "LTwoFacedTiles$Board;", Cond.fieldLink RX6 33 "TwoFacedTiles" "needs" "LTwoFacedTiles$Needs;", Cond.fieldLink RX6 72 "TwoFacedTiles$Board" "tiles" "I", Cond.methodLink RX6 130 yX0_isEmpty, Cond.instanceMethod yX0_isEmpty, Cond.selects RX0 yX0_isEmpty yX0_isEmpty, Cond.initialized RX0, Cond.code yX0_isEmpty cX0_isEmpty 2 (some .boolean), Cond.fieldLink RX0 27 "TwoFacedTiles$Board" "placings" "[I", Cond.methodLink RX6 275 yX3_read, Cond.instanceMethod yX3_read, Cond.selects RX3 yX3_read yX3_read, Cond.initialized RX3, Cond.code yX3_read cX3_read 6 none, Cond.fieldLink RX3 9 "TwoFacedTiles$Needs" "mustBeZero" "I", Cond.fieldLink RX3 15 "TwoFacedTiles$Needs" "mustAgree" "I", Cond.fieldLink RX3 18 "TwoFacedTiles$Needs" "wanted" "I", Cond.fieldLink RX3 21 "TwoFacedTiles$Needs" "forbiddenZero" "Z", Cond.fieldLink RX3 25 "TwoFacedTiles$Board" "rule" "I", Cond.methodLink RX3 30 yX3_ruledColors, Cond.static yX3_ruledColors, Cond.code yX3_ruledColors cX3_ruledColors 1 (some .int), Cond.constant RX3 55 (983055), Cond.methodLink RX3 34 yX0_neighbor]
def wsX6_possibleCount_r2 : List Cond := [Cond.instanceMethod yX0_neighbor, Cond.selects RX0 yX0_neighbor yX0_neighbor, Cond.code yX0_neighbor cX0_neighbor 4 (some .int), Cond.fieldLink RX0 15 "TwoFacedTiles$Board" "columns" "I", Cond.methodLink RX0 43 yX0_cells, Cond.instanceMethod yX0_cells, Cond.selects RX0 yX0_cells yX0_cells, Cond.code yX0_cells cX0_cells 1 (some .int), Cond.fieldLink RX0 9 "TwoFacedTiles$Board" "rows" "I", Cond.methodLink RX3 38 yX0_isEmpty, Cond.methodLink RX3 42 yX0_lookIn, Cond.instanceMethod yX0_lookIn, Cond.selects RX0 yX0_lookIn yX0_lookIn, Cond.code yX0_lookIn cX0_lookIn 2 (some .int), Cond.fieldLink RX0 34 "TwoFacedTiles$Board" "looks" "[I", Cond.static yX6_opposite, Cond.initialized RX6, Cond.code yX6_opposite cX6_opposite 1 (some .int), Cond.static yX6_colorsAt, Cond.code yX6_colorsAt cX6_colorsAt 2 (some .int), Cond.constant RX6 321 (983055), Cond.methodLink RX3 51 yX3_readNeighbor, Cond.instanceMethod yX3_readNeighbor, Cond.selects RX3 yX3_readNeighbor yX3_readNeighbor]
def wsX6_possibleCount_r3 : List Cond := [Cond.code yX3_readNeighbor cX3_readNeighbor 4 none, Cond.constant RX3 56 (983040), Cond.methodLink RX6 290 yX6_meetsNeeds, Cond.instanceMethod yX6_meetsNeeds, Cond.selects RX6 yX6_meetsNeeds yX6_meetsNeeds, Cond.code yX6_meetsNeeds cX6_meetsNeeds 2 (some .boolean), Cond.fieldLink RX6 278 "TwoFacedTiles$Board" "looks" "[I", Cond.methodLink RX6 84 yX0_isLaid, Cond.instanceMethod yX0_isLaid, Cond.selects RX0 yX0_isLaid yX0_isLaid, Cond.code yX0_isLaid cX0_isLaid 2 (some .boolean), Cond.fieldLink RX0 31 "TwoFacedTiles$Board" "places" "[I", Cond.methodLink RX6 281 yX3_reasonAgainst, Cond.instanceMethod yX3_reasonAgainst, Cond.selects RX3 yX3_reasonAgainst yX3_reasonAgainst, Cond.code yX3_reasonAgainst cX3_reasonAgainst 3 (some .int), Cond.constant RX3 57 (65535)]
def wsX6_possibleCount : List Cond := .code yX6_possibleCount cX6_possibleCount 4 (some .int) :: ((wsX6_possibleCount_r1 ++ (wsX6_possibleCount_r2 ++ wsX6_possibleCount_r3)) ++ wsX60 ++ wsX00 ++ wsX30)
def wsX6_firstPossible_r1 : List Cond := [Cond.fieldLink RX6 12 "TwoFacedTiles" "board" "LTwoFacedTiles$Board;", Cond.fieldLink RX6 33 "TwoFacedTiles" "needs" "LTwoFacedTiles$Needs;", Cond.fieldLink RX6 72 "TwoFacedTiles$Board" "tiles" "I", Cond.methodLink RX6 130 yX0_isEmpty, Cond.instanceMethod yX0_isEmpty, Cond.selects RX0 yX0_isEmpty yX0_isEmpty, Cond.initialized RX0, Cond.code yX0_isEmpty cX0_isEmpty 2 (some .boolean), Cond.fieldLink RX0 27 "TwoFacedTiles$Board" "placings" "[I", Cond.methodLink RX6 275 yX3_read, Cond.instanceMethod yX3_read, Cond.selects RX3 yX3_read yX3_read, Cond.initialized RX3, Cond.code yX3_read cX3_read 6 none, Cond.fieldLink RX3 9 "TwoFacedTiles$Needs" "mustBeZero" "I", Cond.fieldLink RX3 15 "TwoFacedTiles$Needs" "mustAgree" "I", Cond.fieldLink RX3 18 "TwoFacedTiles$Needs" "wanted" "I", Cond.fieldLink RX3 21 "TwoFacedTiles$Needs" "forbiddenZero" "Z", Cond.fieldLink RX3 25 "TwoFacedTiles$Board" "rule" "I", Cond.methodLink RX3 30 yX3_ruledColors, Cond.static yX3_ruledColors, Cond.code yX3_ruledColors cX3_ruledColors 1 (some .int), Cond.constant RX3 55 (983055), Cond.methodLink RX3 34 yX0_neighbor]
def wsX6_firstPossible_r2 : List Cond := [Cond.instanceMethod yX0_neighbor, Cond.selects RX0 yX0_neighbor yX0_neighbor, Cond.code yX0_neighbor cX0_neighbor 4 (some .int), Cond.fieldLink RX0 15 "TwoFacedTiles$Board" "columns" "I", Cond.methodLink RX0 43 yX0_cells, Cond.instanceMethod yX0_cells, Cond.selects RX0 yX0_cells yX0_cells, Cond.code yX0_cells cX0_cells 1 (some .int), Cond.fieldLink RX0 9 "TwoFacedTiles$Board" "rows" "I", Cond.methodLink RX3 38 yX0_isEmpty, Cond.methodLink RX3 42 yX0_lookIn, Cond.instanceMethod yX0_lookIn, Cond.selects RX0 yX0_lookIn yX0_lookIn, Cond.code yX0_lookIn cX0_lookIn 2 (some .int), Cond.fieldLink RX0 34 "TwoFacedTiles$Board" "looks" "[I", Cond.static yX6_opposite, Cond.initialized RX6, Cond.code yX6_opposite cX6_opposite 1 (some .int), Cond.static yX6_colorsAt, Cond.code yX6_colorsAt cX6_colorsAt 2 (some .int), Cond.constant RX6 321 (983055), Cond.methodLink RX3 51 yX3_readNeighbor, Cond.instanceMethod yX3_readNeighbor, Cond.selects RX3 yX3_readNeighbor yX3_readNeighbor]
def wsX6_firstPossible_r3 : List Cond := [Cond.code yX3_readNeighbor cX3_readNeighbor 4 none, Cond.constant RX3 56 (983040), Cond.methodLink RX6 290 yX6_meetsNeeds, Cond.instanceMethod yX6_meetsNeeds, Cond.selects RX6 yX6_meetsNeeds yX6_meetsNeeds, Cond.code yX6_meetsNeeds cX6_meetsNeeds 2 (some .boolean), Cond.fieldLink RX6 278 "TwoFacedTiles$Board" "looks" "[I", Cond.methodLink RX6 84 yX0_isLaid, Cond.instanceMethod yX0_isLaid, Cond.selects RX0 yX0_isLaid yX0_isLaid, Cond.code yX0_isLaid cX0_isLaid 2 (some .boolean), Cond.fieldLink RX0 31 "TwoFacedTiles$Board" "places" "[I", Cond.methodLink RX6 281 yX3_reasonAgainst, Cond.instanceMethod yX3_reasonAgainst, Cond.selects RX3 yX3_reasonAgainst yX3_reasonAgainst, Cond.code yX3_reasonAgainst cX3_reasonAgainst 3 (some .int), Cond.constant RX3 57 (65535)]
def wsX6_firstPossible : List Cond := .code yX6_firstPossible cX6_firstPossible 3 (some .int) :: ((wsX6_firstPossible_r1 ++ (wsX6_firstPossible_r2 ++ wsX6_firstPossible_r3)) ++ wsX60 ++ wsX00 ++ wsX30)
def wsX6_cellProperty_r1 : List Cond := [Cond.fieldLink RX6 12 "TwoFacedTiles" "board" "LTwoFacedTiles$Board;", Cond.fieldLink RX6 138 "TwoFacedTiles$Board" "placings" "[I", Cond.methodLink RX6 133 yX0_isFixed, Cond.instanceMethod yX0_isFixed, Cond.selects RX0 yX0_isFixed yX0_isFixed, Cond.initialized RX0, Cond.code yX0_isFixed cX0_isFixed 2 (some .boolean), Cond.fieldLink RX0 24 "TwoFacedTiles$Board" "fixed" "I", Cond.methodLink RX6 284 yX6_possibleCount, Cond.instanceMethod yX6_possibleCount, Cond.selects RX6 yX6_possibleCount yX6_possibleCount, Cond.initialized RX6, Cond.code yX6_possibleCount cX6_possibleCount 4 (some .int), Cond.fieldLink RX6 33 "TwoFacedTiles" "needs" "LTwoFacedTiles$Needs;", Cond.fieldLink RX6 72 "TwoFacedTiles$Board" "tiles" "I", Cond.methodLink RX6 130 yX0_isEmpty, Cond.instanceMethod yX0_isEmpty, Cond.selects RX0 yX0_isEmpty yX0_isEmpty, Cond.code yX0_isEmpty cX0_isEmpty 2 (some .boolean), Cond.fieldLink RX0 27 "TwoFacedTiles$Board" "placings" "[I", Cond.methodLink RX6 275 yX3_read, Cond.instanceMethod yX3_read, Cond.selects RX3 yX3_read yX3_read, Cond.initialized RX3]
def wsX6_cellProperty_r2 : List Cond := [Cond.code yX3_read cX3_read 6 none, Cond.fieldLink RX3 9 "TwoFacedTiles$Needs" "mustBeZero" "I", Cond.fieldLink RX3 15 "TwoFacedTiles$Needs" "mustAgree" "I", Cond.fieldLink RX3 18 "TwoFacedTiles$Needs" "wanted" "I", Cond.fieldLink RX3 21 "TwoFacedTiles$Needs" "forbiddenZero" "Z", Cond.fieldLink RX3 25 "TwoFacedTiles$Board" "rule" "I", Cond.methodLink RX3 30 yX3_ruledColors, Cond.static yX3_ruledColors, Cond.code yX3_ruledColors cX3_ruledColors 1 (some .int), Cond.constant RX3 55 (983055), Cond.methodLink RX3 34 yX0_neighbor, Cond.instanceMethod yX0_neighbor, Cond.selects RX0 yX0_neighbor yX0_neighbor, Cond.code yX0_neighbor cX0_neighbor 4 (some .int), Cond.fieldLink RX0 15 "TwoFacedTiles$Board" "columns" "I", Cond.methodLink RX0 43 yX0_cells, Cond.instanceMethod yX0_cells, Cond.selects RX0 yX0_cells yX0_cells, Cond.code yX0_cells cX0_cells 1 (some .int), Cond.fieldLink RX0 9 "TwoFacedTiles$Board" "rows" "I", Cond.methodLink RX3 38 yX0_isEmpty, Cond.methodLink RX3 42 yX0_lookIn, Cond.instanceMethod yX0_lookIn, Cond.selects RX0 yX0_lookIn yX0_lookIn]
def wsX6_cellProperty_r3 : List Cond := [Cond.code yX0_lookIn cX0_lookIn 2 (some .int), Cond.fieldLink RX0 34 "TwoFacedTiles$Board" "looks" "[I", Cond.static yX6_opposite, Cond.code yX6_opposite cX6_opposite 1 (some .int), Cond.static yX6_colorsAt, Cond.code yX6_colorsAt cX6_colorsAt 2 (some .int), Cond.constant RX6 321 (983055), Cond.methodLink RX3 51 yX3_readNeighbor, Cond.instanceMethod yX3_readNeighbor, Cond.selects RX3 yX3_readNeighbor yX3_readNeighbor, Cond.code yX3_readNeighbor cX3_readNeighbor 4 none, Cond.constant RX3 56 (983040), Cond.methodLink RX6 290 yX6_meetsNeeds, Cond.instanceMethod yX6_meetsNeeds, Cond.selects RX6 yX6_meetsNeeds yX6_meetsNeeds, Cond.code yX6_meetsNeeds cX6_meetsNeeds 2 (some .boolean), Cond.fieldLink RX6 278 "TwoFacedTiles$Board" "looks" "[I", Cond.methodLink RX6 84 yX0_isLaid, Cond.instanceMethod yX0_isLaid, Cond.selects RX0 yX0_isLaid yX0_isLaid, Cond.code yX0_isLaid cX0_isLaid 2 (some .boolean), Cond.fieldLink RX0 31 "TwoFacedTiles$Board" "places" "[I", Cond.methodLink RX6 281 yX3_reasonAgainst, Cond.instanceMethod yX3_reasonAgainst]
def wsX6_cellProperty_r4 : List Cond := [Cond.selects RX3 yX3_reasonAgainst yX3_reasonAgainst, Cond.code yX3_reasonAgainst cX3_reasonAgainst 3 (some .int), Cond.constant RX3 57 (65535), Cond.methodLink RX6 287 yX6_firstPossible, Cond.instanceMethod yX6_firstPossible, Cond.selects RX6 yX6_firstPossible yX6_firstPossible, Cond.code yX6_firstPossible cX6_firstPossible 3 (some .int)]
def wsX6_cellProperty : List Cond := .code yX6_cellProperty cX6_cellProperty 3 (some .int) :: ((wsX6_cellProperty_r1 ++ (wsX6_cellProperty_r2 ++ (wsX6_cellProperty_r3 ++ wsX6_cellProperty_r4))) ++ wsX60 ++ wsX00 ++ wsX30)
def wsX6_cell_r1 : List Cond := [Cond.classLink RX6 55 "java/lang/IllegalArgumentException", Cond.initialized "java/lang/IllegalArgumentException", Cond.methodLink RX6 126 yX6_requireCell, Cond.instanceMethod yX6_requireCell, Cond.selects RX6 yX6_requireCell yX6_requireCell, Cond.initialized RX6, Cond.code yX6_requireCell cX6_requireCell 2 none, Cond.classLink RX6 212 "java/lang/IndexOutOfBoundsException", Cond.initialized "java/lang/IndexOutOfBoundsException", Cond.fieldLink RX6 12 "TwoFacedTiles" "board" "LTwoFacedTiles$Board;", Cond.methodLink RX6 267 yX0_hasCell, Cond.instanceMethod yX0_hasCell, Cond.selects RX0 yX0_hasCell yX0_hasCell, Cond.initialized RX0, Cond.code yX0_hasCell cX0_hasCell 2 (some .boolean), Cond.methodLink RX0 43 yX0_cells, Cond.instanceMethod yX0_cells, Cond.selects RX0 yX0_cells yX0_cells, Cond.code yX0_cells cX0_cells 1 (some .int), Cond.fieldLink RX0 9 "TwoFacedTiles$Board" "rows" "I", Cond.fieldLink RX0 15 "TwoFacedTiles$Board" "columns" "I", Cond.methodLink RX6 209 yX6_cellProperty, Cond.instanceMethod yX6_cellProperty, Cond.selects RX6 yX6_cellProperty yX6_cellProperty]
def wsX6_cell_r2 : List Cond := [Cond.code yX6_cellProperty cX6_cellProperty 3 (some .int), Cond.fieldLink RX6 138 "TwoFacedTiles$Board" "placings" "[I", Cond.methodLink RX6 133 yX0_isFixed, Cond.instanceMethod yX0_isFixed, Cond.selects RX0 yX0_isFixed yX0_isFixed, Cond.code yX0_isFixed cX0_isFixed 2 (some .boolean), Cond.fieldLink RX0 24 "TwoFacedTiles$Board" "fixed" "I", Cond.methodLink RX6 284 yX6_possibleCount, Cond.instanceMethod yX6_possibleCount, Cond.selects RX6 yX6_possibleCount yX6_possibleCount, Cond.code yX6_possibleCount cX6_possibleCount 4 (some .int), Cond.fieldLink RX6 33 "TwoFacedTiles" "needs" "LTwoFacedTiles$Needs;", Cond.fieldLink RX6 72 "TwoFacedTiles$Board" "tiles" "I", Cond.methodLink RX6 130 yX0_isEmpty, Cond.instanceMethod yX0_isEmpty, Cond.selects RX0 yX0_isEmpty yX0_isEmpty, Cond.code yX0_isEmpty cX0_isEmpty 2 (some .boolean), Cond.fieldLink RX0 27 "TwoFacedTiles$Board" "placings" "[I", Cond.methodLink RX6 275 yX3_read, Cond.instanceMethod yX3_read, Cond.selects RX3 yX3_read yX3_read, Cond.initialized RX3, Cond.code yX3_read cX3_read 6 none, Cond.fieldLink RX3 9 "TwoFacedTiles$Needs" "mustBeZero" "I"]
def wsX6_cell_r3 : List Cond := [Cond.fieldLink RX3 15 "TwoFacedTiles$Needs" "mustAgree" "I", Cond.fieldLink RX3 18 "TwoFacedTiles$Needs" "wanted" "I", Cond.fieldLink RX3 21 "TwoFacedTiles$Needs" "forbiddenZero" "Z", Cond.fieldLink RX3 25 "TwoFacedTiles$Board" "rule" "I", Cond.methodLink RX3 30 yX3_ruledColors, Cond.static yX3_ruledColors, Cond.code yX3_ruledColors cX3_ruledColors 1 (some .int), Cond.constant RX3 55 (983055), Cond.methodLink RX3 34 yX0_neighbor, Cond.instanceMethod yX0_neighbor, Cond.selects RX0 yX0_neighbor yX0_neighbor, Cond.code yX0_neighbor cX0_neighbor 4 (some .int), Cond.methodLink RX3 38 yX0_isEmpty, Cond.methodLink RX3 42 yX0_lookIn, Cond.instanceMethod yX0_lookIn, Cond.selects RX0 yX0_lookIn yX0_lookIn, Cond.code yX0_lookIn cX0_lookIn 2 (some .int), Cond.fieldLink RX0 34 "TwoFacedTiles$Board" "looks" "[I", Cond.static yX6_opposite, Cond.code yX6_opposite cX6_opposite 1 (some .int), Cond.static yX6_colorsAt, Cond.code yX6_colorsAt cX6_colorsAt 2 (some .int), Cond.constant RX6 321 (983055), Cond.methodLink RX3 51 yX3_readNeighbor]
def wsX6_cell_r4 : List Cond := [Cond.instanceMethod yX3_readNeighbor, Cond.selects RX3 yX3_readNeighbor yX3_readNeighbor, Cond.code yX3_readNeighbor cX3_readNeighbor 4 none, Cond.constant RX3 56 (983040), Cond.methodLink RX6 290 yX6_meetsNeeds, Cond.instanceMethod yX6_meetsNeeds, Cond.selects RX6 yX6_meetsNeeds yX6_meetsNeeds, Cond.code yX6_meetsNeeds cX6_meetsNeeds 2 (some .boolean), Cond.fieldLink RX6 278 "TwoFacedTiles$Board" "looks" "[I", Cond.methodLink RX6 84 yX0_isLaid, Cond.instanceMethod yX0_isLaid, Cond.selects RX0 yX0_isLaid yX0_isLaid, Cond.code yX0_isLaid cX0_isLaid 2 (some .boolean), Cond.fieldLink RX0 31 "TwoFacedTiles$Board" "places" "[I", Cond.methodLink RX6 281 yX3_reasonAgainst, Cond.instanceMethod yX3_reasonAgainst, Cond.selects RX3 yX3_reasonAgainst yX3_reasonAgainst, Cond.code yX3_reasonAgainst cX3_reasonAgainst 3 (some .int), Cond.constant RX3 57 (65535), Cond.methodLink RX6 287 yX6_firstPossible, Cond.instanceMethod yX6_firstPossible, Cond.selects RX6 yX6_firstPossible yX6_firstPossible, Cond.code yX6_firstPossible cX6_firstPossible 3 (some .int)]
def wsX6_cell : List Cond := .code yX6_cell cX6_cell 3 (some .int) :: ((wsX6_cell_r1 ++ (wsX6_cell_r2 ++ (wsX6_cell_r3 ++ wsX6_cell_r4))) ++ wsX60 ++ wsX00 ++ wsX30 ++ (vx_atS RX6 59 "java/lang/IllegalArgumentException" ["java/lang/RuntimeException", "java/lang/Exception"]).filter goodWord ++ (vx_atS RX6 216 "java/lang/IndexOutOfBoundsException" ["java/lang/RuntimeException", "java/lang/Exception"]).filter goodWord)
def wsX6_colorAt : List Cond := .code yX6_colorAt cX6_colorAt 5 (some .int) :: ([.fieldLink RX6 12 "TwoFacedTiles" "board" "LTwoFacedTiles$Board;", .methodLink RX6 130 yX0_isEmpty, .instanceMethod yX0_isEmpty, .selects RX0 yX0_isEmpty yX0_isEmpty, .initialized RX0, .code yX0_isEmpty cX0_isEmpty 2 (some .boolean), .fieldLink RX0 27 "TwoFacedTiles$Board" "placings" "[I", .methodLink RX6 293 yX0_lookIn, .instanceMethod yX0_lookIn, .selects RX0 yX0_lookIn yX0_lookIn, .code yX0_lookIn cX0_lookIn 2 (some .int), .fieldLink RX0 34 "TwoFacedTiles$Board" "looks" "[I", .methodLink RX6 296 yX6_colorsAt, .static yX6_colorsAt, .initialized RX6, .code yX6_colorsAt cX6_colorsAt 2 (some .int), .constant RX6 321 (983055)] ++ wsX60 ++ wsX00)
def wsX6_color_r1 : List Cond := [Cond.classLink RX6 212 "java/lang/IndexOutOfBoundsException", Cond.initialized "java/lang/IndexOutOfBoundsException", Cond.methodLink RX6 126 yX6_requireCell, Cond.instanceMethod yX6_requireCell, Cond.selects RX6 yX6_requireCell yX6_requireCell, Cond.initialized RX6, Cond.code yX6_requireCell cX6_requireCell 2 none, Cond.fieldLink RX6 12 "TwoFacedTiles" "board" "LTwoFacedTiles$Board;", Cond.methodLink RX6 267 yX0_hasCell, Cond.instanceMethod yX0_hasCell, Cond.selects RX0 yX0_hasCell yX0_hasCell, Cond.initialized RX0, Cond.code yX0_hasCell cX0_hasCell 2 (some .boolean), Cond.methodLink RX0 43 yX0_cells, Cond.instanceMethod yX0_cells, Cond.selects RX0 yX0_cells yX0_cells, Cond.code yX0_cells cX0_cells 1 (some .int), Cond.fieldLink RX0 9 "TwoFacedTiles$Board" "rows" "I", Cond.fieldLink RX0 15 "TwoFacedTiles$Board" "columns" "I", Cond.methodLink RX6 217 yX6_colorAt, Cond.instanceMethod yX6_colorAt, Cond.selects RX6 yX6_colorAt yX6_colorAt, Cond.code yX6_colorAt cX6_colorAt 5 (some .int), Cond.methodLink RX6 130 yX0_isEmpty]
def wsX6_color_r2 : List Cond := [Cond.instanceMethod yX0_isEmpty, Cond.selects RX0 yX0_isEmpty yX0_isEmpty, Cond.code yX0_isEmpty cX0_isEmpty 2 (some .boolean), Cond.fieldLink RX0 27 "TwoFacedTiles$Board" "placings" "[I", Cond.methodLink RX6 293 yX0_lookIn, Cond.instanceMethod yX0_lookIn, Cond.selects RX0 yX0_lookIn yX0_lookIn, Cond.code yX0_lookIn cX0_lookIn 2 (some .int), Cond.fieldLink RX0 34 "TwoFacedTiles$Board" "looks" "[I", Cond.methodLink RX6 296 yX6_colorsAt, Cond.static yX6_colorsAt, Cond.code yX6_colorsAt cX6_colorsAt 2 (some .int), Cond.constant RX6 321 (983055)]
def wsX6_color : List Cond := .code yX6_color cX6_color 4 (some .int) :: ((wsX6_color_r1 ++ wsX6_color_r2) ++ wsX60 ++ wsX00 ++ (vx_atS RX6 216 "java/lang/IndexOutOfBoundsException" ["java/lang/RuntimeException", "java/lang/Exception"]).filter goodWord)
def wsX6_tileProperty : List Cond := .code yX6_tileProperty cX6_tileProperty 3 (some .int) :: ([.fieldLink RX6 12 "TwoFacedTiles" "board" "LTwoFacedTiles$Board;", .fieldLink RX6 302 "TwoFacedTiles$Board" "places" "[I", .methodLink RX6 299 yX0_faceOf, .instanceMethod yX0_faceOf, .selects RX0 yX0_faceOf yX0_faceOf, .initialized RX0, .code yX0_faceOf cX0_faceOf 6 (some .int), .fieldLink RX0 34 "TwoFacedTiles$Board" "looks" "[I", .static yX6_colorsAt, .initialized RX6, .code yX6_colorsAt cX6_colorsAt 2 (some .int), .constant RX6 321 (983055), .methodLink RX6 305 yX0_lowestLike, .instanceMethod yX0_lowestLike, .selects RX0 yX0_lowestLike yX0_lowestLike, .code yX0_lowestLike cX0_lowestLike 4 (some .int)] ++ wsX60 ++ wsX00)
def wsX6_tile_r1 : List Cond := [Cond.classLink RX6 212 "java/lang/IndexOutOfBoundsException", Cond.initialized "java/lang/IndexOutOfBoundsException", Cond.classLink RX6 55 "java/lang/IllegalArgumentException", Cond.initialized "java/lang/IllegalArgumentException", Cond.fieldLink RX6 12 "TwoFacedTiles" "board" "LTwoFacedTiles$Board;", Cond.fieldLink RX6 72 "TwoFacedTiles$Board" "tiles" "I", Cond.methodLink RX6 223 yX6_tileProperty, Cond.instanceMethod yX6_tileProperty, Cond.selects RX6 yX6_tileProperty yX6_tileProperty, Cond.initialized RX6, Cond.code yX6_tileProperty cX6_tileProperty 3 (some .int), Cond.fieldLink RX6 302 "TwoFacedTiles$Board" "places" "[I", Cond.methodLink RX6 299 yX0_faceOf, Cond.instanceMethod yX0_faceOf, Cond.selects RX0 yX0_faceOf yX0_faceOf, Cond.initialized RX0, Cond.code yX0_faceOf cX0_faceOf 6 (some .int), Cond.fieldLink RX0 34 "TwoFacedTiles$Board" "looks" "[I", Cond.static yX6_colorsAt, Cond.code yX6_colorsAt cX6_colorsAt 2 (some .int), Cond.constant RX6 321 (983055), Cond.methodLink RX6 305 yX0_lowestLike, Cond.instanceMethod yX0_lowestLike, Cond.selects RX0 yX0_lowestLike yX0_lowestLike]
def wsX6_tile_r2 : List Cond := [Cond.code yX0_lowestLike cX0_lowestLike 4 (some .int)]
def wsX6_tile : List Cond := .code yX6_tile cX6_tile 3 (some .int) :: ((wsX6_tile_r1 ++ wsX6_tile_r2) ++ wsX60 ++ wsX00 ++ (vx_atS RX6 216 "java/lang/IndexOutOfBoundsException" ["java/lang/RuntimeException", "java/lang/Exception"]).filter goodWord ++ (vx_atS RX6 59 "java/lang/IllegalArgumentException" ["java/lang/RuntimeException", "java/lang/Exception"]).filter goodWord)
def wsJ6_bitCount_0f7a4 : List Cond := .code yJ6_bitCount_0f7a4 cJ6_bitCount_0f7a4 1 (some .int) :: ([.constant RJ6 265 (1431655765), .constant RJ6 266 (858993459), .constant RJ6 267 (252645135)])
def wsX6_misfits_r1 : List Cond := [Cond.fieldLink RX6 12 "TwoFacedTiles" "board" "LTwoFacedTiles$Board;", Cond.fieldLink RX6 33 "TwoFacedTiles" "needs" "LTwoFacedTiles$Needs;", Cond.methodLink RX6 66 yX0_cells, Cond.instanceMethod yX0_cells, Cond.selects RX0 yX0_cells yX0_cells, Cond.initialized RX0, Cond.code yX0_cells cX0_cells 1 (some .int), Cond.fieldLink RX0 9 "TwoFacedTiles$Board" "rows" "I", Cond.fieldLink RX0 15 "TwoFacedTiles$Board" "columns" "I", Cond.methodLink RX6 130 yX0_isEmpty, Cond.instanceMethod yX0_isEmpty, Cond.selects RX0 yX0_isEmpty yX0_isEmpty, Cond.code yX0_isEmpty cX0_isEmpty 2 (some .boolean), Cond.fieldLink RX0 27 "TwoFacedTiles$Board" "placings" "[I", Cond.methodLink RX6 275 yX3_read, Cond.instanceMethod yX3_read, Cond.selects RX3 yX3_read yX3_read, Cond.initialized RX3, Cond.code yX3_read cX3_read 6 none, Cond.fieldLink RX3 9 "TwoFacedTiles$Needs" "mustBeZero" "I", Cond.fieldLink RX3 15 "TwoFacedTiles$Needs" "mustAgree" "I", Cond.fieldLink RX3 18 "TwoFacedTiles$Needs" "wanted" "I", Cond.fieldLink RX3 21 "TwoFacedTiles$Needs" "forbiddenZero" "Z", Cond.fieldLink RX3 25 "TwoFacedTiles$Board" "rule" "I"]
def wsX6_misfits_r2 : List Cond := [Cond.methodLink RX3 30 yX3_ruledColors, Cond.static yX3_ruledColors, Cond.code yX3_ruledColors cX3_ruledColors 1 (some .int), Cond.constant RX3 55 (983055), Cond.methodLink RX3 34 yX0_neighbor, Cond.instanceMethod yX0_neighbor, Cond.selects RX0 yX0_neighbor yX0_neighbor, Cond.code yX0_neighbor cX0_neighbor 4 (some .int), Cond.methodLink RX0 43 yX0_cells, Cond.methodLink RX3 38 yX0_isEmpty, Cond.methodLink RX3 42 yX0_lookIn, Cond.instanceMethod yX0_lookIn, Cond.selects RX0 yX0_lookIn yX0_lookIn, Cond.code yX0_lookIn cX0_lookIn 2 (some .int), Cond.fieldLink RX0 34 "TwoFacedTiles$Board" "looks" "[I", Cond.static yX6_opposite, Cond.initialized RX6, Cond.code yX6_opposite cX6_opposite 1 (some .int), Cond.static yX6_colorsAt, Cond.code yX6_colorsAt cX6_colorsAt 2 (some .int), Cond.constant RX6 321 (983055), Cond.methodLink RX3 51 yX3_readNeighbor, Cond.instanceMethod yX3_readNeighbor, Cond.selects RX3 yX3_readNeighbor yX3_readNeighbor]
def wsX6_misfits_r3 : List Cond := [Cond.code yX3_readNeighbor cX3_readNeighbor 4 none, Cond.constant RX3 56 (983040), Cond.methodLink RX6 293 yX0_lookIn, Cond.methodLink RX6 281 yX3_reasonAgainst, Cond.instanceMethod yX3_reasonAgainst, Cond.selects RX3 yX3_reasonAgainst yX3_reasonAgainst, Cond.code yX3_reasonAgainst cX3_reasonAgainst 3 (some .int), Cond.constant RX3 57 (65535)]
def wsX6_misfits : List Cond := .code yX6_misfits cX6_misfits 3 (some .int) :: ((wsX6_misfits_r1 ++ (wsX6_misfits_r2 ++ wsX6_misfits_r3)) ++ wsX60 ++ wsX00 ++ wsX30)
def wsX6_number_r1 : List Cond := [Cond.fieldLink RX6 12 "TwoFacedTiles" "board" "LTwoFacedTiles$Board;", Cond.fieldLink RX6 98 "TwoFacedTiles$Board" "rows" "I", Cond.fieldLink RX6 101 "TwoFacedTiles$Board" "columns" "I", Cond.fieldLink RX6 72 "TwoFacedTiles$Board" "tiles" "I", Cond.fieldLink RX6 147 "TwoFacedTiles$Board" "fixed" "I", Cond.fieldLink RX6 92 "TwoFacedTiles$Board" "rule" "I", Cond.constant RX6 311 (983040), Cond.fieldLink RX6 19 "TwoFacedTiles" "history" "LTwoFacedTiles$History;", Cond.fieldLink RX6 199 "TwoFacedTiles$History" "kept" "I", Cond.methodLink RX6 123 yX0_emptyCells, Cond.instanceMethod yX0_emptyCells, Cond.selects RX0 yX0_emptyCells yX0_emptyCells, Cond.initialized RX0, Cond.code yX0_emptyCells cX0_emptyCells 3 (some .int), Cond.methodLink RX0 43 yX0_cells, Cond.instanceMethod yX0_cells, Cond.selects RX0 yX0_cells yX0_cells, Cond.code yX0_cells cX0_cells 1 (some .int), Cond.fieldLink RX0 9 "TwoFacedTiles$Board" "rows" "I", Cond.fieldLink RX0 15 "TwoFacedTiles$Board" "columns" "I", Cond.methodLink RX0 47 yX0_isEmpty, Cond.instanceMethod yX0_isEmpty, Cond.selects RX0 yX0_isEmpty yX0_isEmpty, Cond.code yX0_isEmpty cX0_isEmpty 2 (some .boolean)]
def wsX6_number_r2 : List Cond := [Cond.fieldLink RX0 27 "TwoFacedTiles$Board" "placings" "[I", Cond.methodLink RX6 239 yJ6_bitCount_0f7a4, Cond.static yJ6_bitCount_0f7a4, Cond.initialized RJ6, Cond.code yJ6_bitCount_0f7a4 cJ6_bitCount_0f7a4 1 (some .int), Cond.constant RJ6 265 (1431655765), Cond.constant RJ6 266 (858993459), Cond.constant RJ6 267 (252645135), Cond.methodLink RX6 308 yX0_pairsAlike, Cond.instanceMethod yX0_pairsAlike, Cond.selects RX0 yX0_pairsAlike yX0_pairsAlike, Cond.code yX0_pairsAlike cX0_pairsAlike 4 (some .int), Cond.methodLink RX0 94 yX0_isAlike, Cond.instanceMethod yX0_isAlike, Cond.selects RX0 yX0_isAlike yX0_isAlike, Cond.code yX0_isAlike cX0_isAlike 7 (some .boolean), Cond.methodLink RX0 80 yX0_neighbor, Cond.instanceMethod yX0_neighbor, Cond.selects RX0 yX0_neighbor yX0_neighbor, Cond.code yX0_neighbor cX0_neighbor 4 (some .int), Cond.methodLink RX0 98 yX0_lookIn, Cond.instanceMethod yX0_lookIn, Cond.selects RX0 yX0_lookIn yX0_lookIn, Cond.code yX0_lookIn cX0_lookIn 2 (some .int)]
def wsX6_number_r3 : List Cond := [Cond.fieldLink RX0 34 "TwoFacedTiles$Board" "looks" "[I", Cond.static yX6_colorsAt, Cond.initialized RX6, Cond.code yX6_colorsAt cX6_colorsAt 2 (some .int), Cond.constant RX6 321 (983055), Cond.static yX6_opposite, Cond.code yX6_opposite cX6_opposite 1 (some .int), Cond.methodLink RX6 312 yX6_misfits, Cond.instanceMethod yX6_misfits, Cond.selects RX6 yX6_misfits yX6_misfits, Cond.code yX6_misfits cX6_misfits 3 (some .int), Cond.fieldLink RX6 33 "TwoFacedTiles" "needs" "LTwoFacedTiles$Needs;", Cond.methodLink RX6 66 yX0_cells, Cond.methodLink RX6 130 yX0_isEmpty, Cond.methodLink RX6 275 yX3_read, Cond.instanceMethod yX3_read, Cond.selects RX3 yX3_read yX3_read, Cond.initialized RX3, Cond.code yX3_read cX3_read 6 none, Cond.fieldLink RX3 9 "TwoFacedTiles$Needs" "mustBeZero" "I", Cond.fieldLink RX3 15 "TwoFacedTiles$Needs" "mustAgree" "I", Cond.fieldLink RX3 18 "TwoFacedTiles$Needs" "wanted" "I", Cond.fieldLink RX3 21 "TwoFacedTiles$Needs" "forbiddenZero" "Z", Cond.fieldLink RX3 25 "TwoFacedTiles$Board" "rule" "I"]
def wsX6_number_r4 : List Cond := [Cond.methodLink RX3 30 yX3_ruledColors, Cond.static yX3_ruledColors, Cond.code yX3_ruledColors cX3_ruledColors 1 (some .int), Cond.constant RX3 55 (983055), Cond.methodLink RX3 34 yX0_neighbor, Cond.methodLink RX3 38 yX0_isEmpty, Cond.methodLink RX3 42 yX0_lookIn, Cond.methodLink RX3 51 yX3_readNeighbor, Cond.instanceMethod yX3_readNeighbor, Cond.selects RX3 yX3_readNeighbor yX3_readNeighbor, Cond.code yX3_readNeighbor cX3_readNeighbor 4 none, Cond.constant RX3 56 (983040), Cond.methodLink RX6 293 yX0_lookIn, Cond.methodLink RX6 281 yX3_reasonAgainst, Cond.instanceMethod yX3_reasonAgainst, Cond.selects RX3 yX3_reasonAgainst yX3_reasonAgainst, Cond.code yX3_reasonAgainst cX3_reasonAgainst 3 (some .int), Cond.constant RX3 57 (65535)]
def wsX6_number : List Cond := .code yX6_number cX6_number 2 (some .int) :: ((wsX6_number_r1 ++ (wsX6_number_r2 ++ (wsX6_number_r3 ++ wsX6_number_r4))) ++ wsX60 ++ wsX00 ++ wsX20 ++ wsX30)
def wsX6_count_r1 : List Cond := [Cond.classLink RX6 55 "java/lang/IllegalArgumentException", Cond.initialized "java/lang/IllegalArgumentException", Cond.methodLink RX6 228 yX6_number, Cond.instanceMethod yX6_number, Cond.selects RX6 yX6_number yX6_number, Cond.initialized RX6, Cond.code yX6_number cX6_number 2 (some .int), Cond.fieldLink RX6 12 "TwoFacedTiles" "board" "LTwoFacedTiles$Board;", Cond.fieldLink RX6 98 "TwoFacedTiles$Board" "rows" "I", Cond.fieldLink RX6 101 "TwoFacedTiles$Board" "columns" "I", Cond.fieldLink RX6 72 "TwoFacedTiles$Board" "tiles" "I", Cond.fieldLink RX6 147 "TwoFacedTiles$Board" "fixed" "I", Cond.fieldLink RX6 92 "TwoFacedTiles$Board" "rule" "I", Cond.constant RX6 311 (983040), Cond.fieldLink RX6 19 "TwoFacedTiles" "history" "LTwoFacedTiles$History;", Cond.fieldLink RX6 199 "TwoFacedTiles$History" "kept" "I", Cond.methodLink RX6 123 yX0_emptyCells, Cond.instanceMethod yX0_emptyCells, Cond.selects RX0 yX0_emptyCells yX0_emptyCells, Cond.initialized RX0, Cond.code yX0_emptyCells cX0_emptyCells 3 (some .int), Cond.methodLink RX0 43 yX0_cells, Cond.instanceMethod yX0_cells, Cond.selects RX0 yX0_cells yX0_cells]
def wsX6_count_r2 : List Cond := [Cond.code yX0_cells cX0_cells 1 (some .int), Cond.fieldLink RX0 9 "TwoFacedTiles$Board" "rows" "I", Cond.fieldLink RX0 15 "TwoFacedTiles$Board" "columns" "I", Cond.methodLink RX0 47 yX0_isEmpty, Cond.instanceMethod yX0_isEmpty, Cond.selects RX0 yX0_isEmpty yX0_isEmpty, Cond.code yX0_isEmpty cX0_isEmpty 2 (some .boolean), Cond.fieldLink RX0 27 "TwoFacedTiles$Board" "placings" "[I", Cond.methodLink RX6 239 yJ6_bitCount_0f7a4, Cond.static yJ6_bitCount_0f7a4, Cond.initialized RJ6, Cond.code yJ6_bitCount_0f7a4 cJ6_bitCount_0f7a4 1 (some .int), Cond.constant RJ6 265 (1431655765), Cond.constant RJ6 266 (858993459), Cond.constant RJ6 267 (252645135), Cond.methodLink RX6 308 yX0_pairsAlike, Cond.instanceMethod yX0_pairsAlike, Cond.selects RX0 yX0_pairsAlike yX0_pairsAlike, Cond.code yX0_pairsAlike cX0_pairsAlike 4 (some .int), Cond.methodLink RX0 94 yX0_isAlike, Cond.instanceMethod yX0_isAlike, Cond.selects RX0 yX0_isAlike yX0_isAlike, Cond.code yX0_isAlike cX0_isAlike 7 (some .boolean), Cond.methodLink RX0 80 yX0_neighbor]
def wsX6_count_r3 : List Cond := [Cond.instanceMethod yX0_neighbor, Cond.selects RX0 yX0_neighbor yX0_neighbor, Cond.code yX0_neighbor cX0_neighbor 4 (some .int), Cond.methodLink RX0 98 yX0_lookIn, Cond.instanceMethod yX0_lookIn, Cond.selects RX0 yX0_lookIn yX0_lookIn, Cond.code yX0_lookIn cX0_lookIn 2 (some .int), Cond.fieldLink RX0 34 "TwoFacedTiles$Board" "looks" "[I", Cond.static yX6_colorsAt, Cond.code yX6_colorsAt cX6_colorsAt 2 (some .int), Cond.constant RX6 321 (983055), Cond.static yX6_opposite, Cond.code yX6_opposite cX6_opposite 1 (some .int), Cond.methodLink RX6 312 yX6_misfits, Cond.instanceMethod yX6_misfits, Cond.selects RX6 yX6_misfits yX6_misfits, Cond.code yX6_misfits cX6_misfits 3 (some .int), Cond.fieldLink RX6 33 "TwoFacedTiles" "needs" "LTwoFacedTiles$Needs;", Cond.methodLink RX6 66 yX0_cells, Cond.methodLink RX6 130 yX0_isEmpty, Cond.methodLink RX6 275 yX3_read, Cond.instanceMethod yX3_read, Cond.selects RX3 yX3_read yX3_read, Cond.initialized RX3]
def wsX6_count_r4 : List Cond := [Cond.code yX3_read cX3_read 6 none, Cond.fieldLink RX3 9 "TwoFacedTiles$Needs" "mustBeZero" "I", Cond.fieldLink RX3 15 "TwoFacedTiles$Needs" "mustAgree" "I", Cond.fieldLink RX3 18 "TwoFacedTiles$Needs" "wanted" "I", Cond.fieldLink RX3 21 "TwoFacedTiles$Needs" "forbiddenZero" "Z", Cond.fieldLink RX3 25 "TwoFacedTiles$Board" "rule" "I", Cond.methodLink RX3 30 yX3_ruledColors, Cond.static yX3_ruledColors, Cond.code yX3_ruledColors cX3_ruledColors 1 (some .int), Cond.constant RX3 55 (983055), Cond.methodLink RX3 34 yX0_neighbor, Cond.methodLink RX3 38 yX0_isEmpty, Cond.methodLink RX3 42 yX0_lookIn, Cond.methodLink RX3 51 yX3_readNeighbor, Cond.instanceMethod yX3_readNeighbor, Cond.selects RX3 yX3_readNeighbor yX3_readNeighbor, Cond.code yX3_readNeighbor cX3_readNeighbor 4 none, Cond.constant RX3 56 (983040), Cond.methodLink RX6 293 yX0_lookIn, Cond.methodLink RX6 281 yX3_reasonAgainst, Cond.instanceMethod yX3_reasonAgainst, Cond.selects RX3 yX3_reasonAgainst yX3_reasonAgainst, Cond.code yX3_reasonAgainst cX3_reasonAgainst 3 (some .int), Cond.constant RX3 57 (65535)]
def wsX6_count : List Cond := .code yX6_count cX6_count 2 (some .int) :: ((wsX6_count_r1 ++ (wsX6_count_r2 ++ (wsX6_count_r3 ++ wsX6_count_r4))) ++ wsX60 ++ wsX00 ++ wsX20 ++ wsX30 ++ (vx_atS RX6 59 "java/lang/IllegalArgumentException" ["java/lang/RuntimeException", "java/lang/Exception"]).filter goodWord)
def wsX6_layings_r1 : List Cond := [Cond.classLink RX6 55 "java/lang/IllegalArgumentException", Cond.initialized "java/lang/IllegalArgumentException", Cond.fieldLink RX6 40 "TwoFacedTiles" "search" "LTwoFacedTiles$Search;", Cond.fieldLink RX6 12 "TwoFacedTiles" "board" "LTwoFacedTiles$Board;", Cond.methodLink RX6 157 yX4_run, Cond.instanceMethod yX4_run, Cond.selects RX4 yX4_run yX4_run, Cond.initialized RX4, Cond.code yX4_run cX4_run 3 none, Cond.fieldLink RX4 12 "TwoFacedTiles$Search" "trial" "LTwoFacedTiles$Board;", Cond.methodLink RX4 42 yX0_copyFrom, Cond.instanceMethod yX0_copyFrom, Cond.selects RX0 yX0_copyFrom yX0_copyFrom, Cond.initialized RX0, Cond.code yX0_copyFrom cX0_copyFrom 2 none, Cond.fieldLink RX0 9 "TwoFacedTiles$Board" "rows" "I", Cond.fieldLink RX0 15 "TwoFacedTiles$Board" "columns" "I", Cond.fieldLink RX0 18 "TwoFacedTiles$Board" "rule" "I", Cond.fieldLink RX0 21 "TwoFacedTiles$Board" "tiles" "I", Cond.fieldLink RX0 24 "TwoFacedTiles$Board" "fixed" "I", Cond.fieldLink RX0 27 "TwoFacedTiles$Board" "placings" "[I", Cond.methodLink RX0 37 arraycopyName, Cond.native arraycopyName, Cond.static arraycopyName]
def wsX6_layings_r2 : List Cond := [Cond.initialized "java/lang/System", Cond.fieldLink RX0 31 "TwoFacedTiles$Board" "places" "[I", Cond.fieldLink RX0 34 "TwoFacedTiles$Board" "looks" "[I", Cond.methodLink RX4 46 yX4_runTrial, Cond.instanceMethod yX4_runTrial, Cond.selects RX4 yX4_runTrial yX4_runTrial, Cond.code yX4_runTrial cX4_runTrial 2 none, Cond.fieldLink RX4 28 "TwoFacedTiles$Search" "most" "I", Cond.fieldLink RX4 18 "TwoFacedTiles$Search" "found" "I", Cond.fieldLink RX4 31 "TwoFacedTiles$Search" "steps" "I", Cond.fieldLink RX4 34 "TwoFacedTiles$Search" "tooManySteps" "Z", Cond.fieldLink RX4 38 "TwoFacedTiles$Search" "over" "Z", Cond.methodLink RX4 54 yX4_fillFrom, Cond.instanceMethod yX4_fillFrom, Cond.selects RX4 yX4_fillFrom yX4_fillFrom, Cond.code yX4_fillFrom cX4_fillFrom 7 none, Cond.fieldLink RX4 24 "TwoFacedTiles$Search" "needs" "[LTwoFacedTiles$Needs;", Cond.fieldLink RX4 69 "TwoFacedTiles$Board" "tiles" "I", Cond.fieldLink RX4 75 "TwoFacedTiles$Board" "looks" "[I", Cond.methodLink RX4 57 yX0_cells, Cond.instanceMethod yX0_cells, Cond.selects RX0 yX0_cells yX0_cells, Cond.code yX0_cells cX0_cells 1 (some .int), Cond.methodLink RX4 61 yX0_isEmpty]
def wsX6_layings_r3 : List Cond := [Cond.instanceMethod yX0_isEmpty, Cond.selects RX0 yX0_isEmpty yX0_isEmpty, Cond.code yX0_isEmpty cX0_isEmpty 2 (some .boolean), Cond.methodLink RX4 65 yX3_read, Cond.instanceMethod yX3_read, Cond.selects RX3 yX3_read yX3_read, Cond.initialized RX3, Cond.code yX3_read cX3_read 6 none, Cond.fieldLink RX3 9 "TwoFacedTiles$Needs" "mustBeZero" "I", Cond.fieldLink RX3 15 "TwoFacedTiles$Needs" "mustAgree" "I", Cond.fieldLink RX3 18 "TwoFacedTiles$Needs" "wanted" "I", Cond.fieldLink RX3 21 "TwoFacedTiles$Needs" "forbiddenZero" "Z", Cond.fieldLink RX3 25 "TwoFacedTiles$Board" "rule" "I", Cond.methodLink RX3 30 yX3_ruledColors, Cond.static yX3_ruledColors, Cond.code yX3_ruledColors cX3_ruledColors 1 (some .int), Cond.constant RX3 55 (983055), Cond.methodLink RX3 34 yX0_neighbor, Cond.instanceMethod yX0_neighbor, Cond.selects RX0 yX0_neighbor yX0_neighbor, Cond.code yX0_neighbor cX0_neighbor 4 (some .int), Cond.methodLink RX0 43 yX0_cells, Cond.methodLink RX3 38 yX0_isEmpty, Cond.methodLink RX3 42 yX0_lookIn]
def wsX6_layings_r4 : List Cond := [Cond.instanceMethod yX0_lookIn, Cond.selects RX0 yX0_lookIn yX0_lookIn, Cond.code yX0_lookIn cX0_lookIn 2 (some .int), Cond.static yX6_opposite, Cond.initialized RX6, Cond.code yX6_opposite cX6_opposite 1 (some .int), Cond.static yX6_colorsAt, Cond.code yX6_colorsAt cX6_colorsAt 2 (some .int), Cond.constant RX6 321 (983055), Cond.methodLink RX3 51 yX3_readNeighbor, Cond.instanceMethod yX3_readNeighbor, Cond.selects RX3 yX3_readNeighbor yX3_readNeighbor, Cond.code yX3_readNeighbor cX3_readNeighbor 4 none, Cond.constant RX3 56 (983040), Cond.methodLink RX4 72 yX0_isLaid, Cond.instanceMethod yX0_isLaid, Cond.selects RX0 yX0_isLaid yX0_isLaid, Cond.code yX0_isLaid cX0_isLaid 2 (some .boolean), Cond.methodLink RX4 79 yX3_reasonAgainst, Cond.instanceMethod yX3_reasonAgainst, Cond.selects RX3 yX3_reasonAgainst yX3_reasonAgainst, Cond.code yX3_reasonAgainst cX3_reasonAgainst 3 (some .int), Cond.constant RX3 57 (65535), Cond.methodLink RX4 82 yX4_tryPlacing]
def wsX6_layings_r5 : List Cond := [Cond.instanceMethod yX4_tryPlacing, Cond.selects RX4 yX4_tryPlacing yX4_tryPlacing, Cond.code yX4_tryPlacing cX4_tryPlacing 3 none, Cond.methodLink RX4 86 yX0_put, Cond.instanceMethod yX0_put, Cond.selects RX0 yX0_put yX0_put, Cond.code yX0_put cX0_put 3 none, Cond.methodLink RX4 89 yX0_remove, Cond.instanceMethod yX0_remove, Cond.selects RX0 yX0_remove yX0_remove, Cond.code yX0_remove cX0_remove 2 none, Cond.methodLink RX6 233 yX4_result, Cond.instanceMethod yX4_result, Cond.selects RX4 yX4_result yX4_result, Cond.code yX4_result cX4_result 2 (some .int)]
def wsX6_layings : List Cond := .code yX6_layings cX6_layings 3 (some .int) :: ((wsX6_layings_r1 ++ (wsX6_layings_r2 ++ (wsX6_layings_r3 ++ (wsX6_layings_r4 ++ wsX6_layings_r5)))) ++ wsX60 ++ wsX40 ++ wsX00 ++ wsX30 ++ (vx_atS RX6 59 "java/lang/IllegalArgumentException" ["java/lang/RuntimeException", "java/lang/Exception"]).filter goodWord)
def wsX6_bestStep_r1 : List Cond := [Cond.fieldLink RX6 12 "TwoFacedTiles" "board" "LTwoFacedTiles$Board;", Cond.methodLink RX6 66 yX0_cells, Cond.instanceMethod yX0_cells, Cond.selects RX0 yX0_cells yX0_cells, Cond.initialized RX0, Cond.code yX0_cells cX0_cells 1 (some .int), Cond.fieldLink RX0 9 "TwoFacedTiles$Board" "rows" "I", Cond.fieldLink RX0 15 "TwoFacedTiles$Board" "columns" "I", Cond.methodLink RX6 284 yX6_possibleCount, Cond.instanceMethod yX6_possibleCount, Cond.selects RX6 yX6_possibleCount yX6_possibleCount, Cond.initialized RX6, Cond.code yX6_possibleCount cX6_possibleCount 4 (some .int), Cond.fieldLink RX6 33 "TwoFacedTiles" "needs" "LTwoFacedTiles$Needs;", Cond.fieldLink RX6 72 "TwoFacedTiles$Board" "tiles" "I", Cond.methodLink RX6 130 yX0_isEmpty, Cond.instanceMethod yX0_isEmpty, Cond.selects RX0 yX0_isEmpty yX0_isEmpty, Cond.code yX0_isEmpty cX0_isEmpty 2 (some .boolean), Cond.fieldLink RX0 27 "TwoFacedTiles$Board" "placings" "[I", Cond.methodLink RX6 275 yX3_read, Cond.instanceMethod yX3_read, Cond.selects RX3 yX3_read yX3_read, Cond.initialized RX3]
def wsX6_bestStep_r2 : List Cond := [Cond.code yX3_read cX3_read 6 none, Cond.fieldLink RX3 9 "TwoFacedTiles$Needs" "mustBeZero" "I", Cond.fieldLink RX3 15 "TwoFacedTiles$Needs" "mustAgree" "I", Cond.fieldLink RX3 18 "TwoFacedTiles$Needs" "wanted" "I", Cond.fieldLink RX3 21 "TwoFacedTiles$Needs" "forbiddenZero" "Z", Cond.fieldLink RX3 25 "TwoFacedTiles$Board" "rule" "I", Cond.methodLink RX3 30 yX3_ruledColors, Cond.static yX3_ruledColors, Cond.code yX3_ruledColors cX3_ruledColors 1 (some .int), Cond.constant RX3 55 (983055), Cond.methodLink RX3 34 yX0_neighbor, Cond.instanceMethod yX0_neighbor, Cond.selects RX0 yX0_neighbor yX0_neighbor, Cond.code yX0_neighbor cX0_neighbor 4 (some .int), Cond.methodLink RX0 43 yX0_cells, Cond.methodLink RX3 38 yX0_isEmpty, Cond.methodLink RX3 42 yX0_lookIn, Cond.instanceMethod yX0_lookIn, Cond.selects RX0 yX0_lookIn yX0_lookIn, Cond.code yX0_lookIn cX0_lookIn 2 (some .int), Cond.fieldLink RX0 34 "TwoFacedTiles$Board" "looks" "[I", Cond.static yX6_opposite, Cond.code yX6_opposite cX6_opposite 1 (some .int), Cond.static yX6_colorsAt]
def wsX6_bestStep_r3 : List Cond := [Cond.code yX6_colorsAt cX6_colorsAt 2 (some .int), Cond.constant RX6 321 (983055), Cond.methodLink RX3 51 yX3_readNeighbor, Cond.instanceMethod yX3_readNeighbor, Cond.selects RX3 yX3_readNeighbor yX3_readNeighbor, Cond.code yX3_readNeighbor cX3_readNeighbor 4 none, Cond.constant RX3 56 (983040), Cond.methodLink RX6 290 yX6_meetsNeeds, Cond.instanceMethod yX6_meetsNeeds, Cond.selects RX6 yX6_meetsNeeds yX6_meetsNeeds, Cond.code yX6_meetsNeeds cX6_meetsNeeds 2 (some .boolean), Cond.fieldLink RX6 278 "TwoFacedTiles$Board" "looks" "[I", Cond.methodLink RX6 84 yX0_isLaid, Cond.instanceMethod yX0_isLaid, Cond.selects RX0 yX0_isLaid yX0_isLaid, Cond.code yX0_isLaid cX0_isLaid 2 (some .boolean), Cond.fieldLink RX0 31 "TwoFacedTiles$Board" "places" "[I", Cond.methodLink RX6 281 yX3_reasonAgainst, Cond.instanceMethod yX3_reasonAgainst, Cond.selects RX3 yX3_reasonAgainst yX3_reasonAgainst, Cond.code yX3_reasonAgainst cX3_reasonAgainst 3 (some .int), Cond.constant RX3 57 (65535), Cond.methodLink RX6 287 yX6_firstPossible, Cond.instanceMethod yX6_firstPossible]
def wsX6_bestStep_r4 : List Cond := [Cond.selects RX6 yX6_firstPossible yX6_firstPossible, Cond.code yX6_firstPossible cX6_firstPossible 3 (some .int)]
def wsX6_bestStep : List Cond := .code yX6_bestStep cX6_bestStep 5 (some .int) :: ((wsX6_bestStep_r1 ++ (wsX6_bestStep_r2 ++ (wsX6_bestStep_r3 ++ wsX6_bestStep_r4))) ++ wsX60 ++ wsX00 ++ wsX30)
def wsX6_hint_r1 : List Cond := [Cond.methodLink RX6 236 yX6_bestStep, Cond.instanceMethod yX6_bestStep, Cond.selects RX6 yX6_bestStep yX6_bestStep, Cond.initialized RX6, Cond.code yX6_bestStep cX6_bestStep 5 (some .int), Cond.fieldLink RX6 12 "TwoFacedTiles" "board" "LTwoFacedTiles$Board;", Cond.methodLink RX6 66 yX0_cells, Cond.instanceMethod yX0_cells, Cond.selects RX0 yX0_cells yX0_cells, Cond.initialized RX0, Cond.code yX0_cells cX0_cells 1 (some .int), Cond.fieldLink RX0 9 "TwoFacedTiles$Board" "rows" "I", Cond.fieldLink RX0 15 "TwoFacedTiles$Board" "columns" "I", Cond.methodLink RX6 284 yX6_possibleCount, Cond.instanceMethod yX6_possibleCount, Cond.selects RX6 yX6_possibleCount yX6_possibleCount, Cond.code yX6_possibleCount cX6_possibleCount 4 (some .int), Cond.fieldLink RX6 33 "TwoFacedTiles" "needs" "LTwoFacedTiles$Needs;", Cond.fieldLink RX6 72 "TwoFacedTiles$Board" "tiles" "I", Cond.methodLink RX6 130 yX0_isEmpty, Cond.instanceMethod yX0_isEmpty, Cond.selects RX0 yX0_isEmpty yX0_isEmpty, Cond.code yX0_isEmpty cX0_isEmpty 2 (some .boolean), Cond.fieldLink RX0 27 "TwoFacedTiles$Board" "placings" "[I"]
def wsX6_hint_r2 : List Cond := [Cond.methodLink RX6 275 yX3_read, Cond.instanceMethod yX3_read, Cond.selects RX3 yX3_read yX3_read, Cond.initialized RX3, Cond.code yX3_read cX3_read 6 none, Cond.fieldLink RX3 9 "TwoFacedTiles$Needs" "mustBeZero" "I", Cond.fieldLink RX3 15 "TwoFacedTiles$Needs" "mustAgree" "I", Cond.fieldLink RX3 18 "TwoFacedTiles$Needs" "wanted" "I", Cond.fieldLink RX3 21 "TwoFacedTiles$Needs" "forbiddenZero" "Z", Cond.fieldLink RX3 25 "TwoFacedTiles$Board" "rule" "I", Cond.methodLink RX3 30 yX3_ruledColors, Cond.static yX3_ruledColors, Cond.code yX3_ruledColors cX3_ruledColors 1 (some .int), Cond.constant RX3 55 (983055), Cond.methodLink RX3 34 yX0_neighbor, Cond.instanceMethod yX0_neighbor, Cond.selects RX0 yX0_neighbor yX0_neighbor, Cond.code yX0_neighbor cX0_neighbor 4 (some .int), Cond.methodLink RX0 43 yX0_cells, Cond.methodLink RX3 38 yX0_isEmpty, Cond.methodLink RX3 42 yX0_lookIn, Cond.instanceMethod yX0_lookIn, Cond.selects RX0 yX0_lookIn yX0_lookIn, Cond.code yX0_lookIn cX0_lookIn 2 (some .int)]
def wsX6_hint_r3 : List Cond := [Cond.fieldLink RX0 34 "TwoFacedTiles$Board" "looks" "[I", Cond.static yX6_opposite, Cond.code yX6_opposite cX6_opposite 1 (some .int), Cond.static yX6_colorsAt, Cond.code yX6_colorsAt cX6_colorsAt 2 (some .int), Cond.constant RX6 321 (983055), Cond.methodLink RX3 51 yX3_readNeighbor, Cond.instanceMethod yX3_readNeighbor, Cond.selects RX3 yX3_readNeighbor yX3_readNeighbor, Cond.code yX3_readNeighbor cX3_readNeighbor 4 none, Cond.constant RX3 56 (983040), Cond.methodLink RX6 290 yX6_meetsNeeds, Cond.instanceMethod yX6_meetsNeeds, Cond.selects RX6 yX6_meetsNeeds yX6_meetsNeeds, Cond.code yX6_meetsNeeds cX6_meetsNeeds 2 (some .boolean), Cond.fieldLink RX6 278 "TwoFacedTiles$Board" "looks" "[I", Cond.methodLink RX6 84 yX0_isLaid, Cond.instanceMethod yX0_isLaid, Cond.selects RX0 yX0_isLaid yX0_isLaid, Cond.code yX0_isLaid cX0_isLaid 2 (some .boolean), Cond.fieldLink RX0 31 "TwoFacedTiles$Board" "places" "[I", Cond.methodLink RX6 281 yX3_reasonAgainst, Cond.instanceMethod yX3_reasonAgainst, Cond.selects RX3 yX3_reasonAgainst yX3_reasonAgainst]
def wsX6_hint_r4 : List Cond := [Cond.code yX3_reasonAgainst cX3_reasonAgainst 3 (some .int), Cond.constant RX3 57 (65535), Cond.methodLink RX6 287 yX6_firstPossible, Cond.instanceMethod yX6_firstPossible, Cond.selects RX6 yX6_firstPossible yX6_firstPossible, Cond.code yX6_firstPossible cX6_firstPossible 3 (some .int)]
def wsX6_hint : List Cond := .code yX6_hint cX6_hint 1 (some .int) :: ((wsX6_hint_r1 ++ (wsX6_hint_r2 ++ (wsX6_hint_r3 ++ wsX6_hint_r4))) ++ wsX60 ++ wsX00 ++ wsX30)
def wsX6_why_r1 : List Cond := [Cond.methodLink RX6 111 yX6_requirePlacing, Cond.instanceMethod yX6_requirePlacing, Cond.selects RX6 yX6_requirePlacing yX6_requirePlacing, Cond.initialized RX6, Cond.code yX6_requirePlacing cX6_requirePlacing 3 none, Cond.classLink RX6 212 "java/lang/IndexOutOfBoundsException", Cond.initialized "java/lang/IndexOutOfBoundsException", Cond.fieldLink RX6 12 "TwoFacedTiles" "board" "LTwoFacedTiles$Board;", Cond.methodLink RX6 126 yX6_requireCell, Cond.instanceMethod yX6_requireCell, Cond.selects RX6 yX6_requireCell yX6_requireCell, Cond.code yX6_requireCell cX6_requireCell 2 none, Cond.methodLink RX6 267 yX0_hasCell, Cond.instanceMethod yX0_hasCell, Cond.selects RX0 yX0_hasCell yX0_hasCell, Cond.initialized RX0, Cond.code yX0_hasCell cX0_hasCell 2 (some .boolean), Cond.methodLink RX0 43 yX0_cells, Cond.instanceMethod yX0_cells, Cond.selects RX0 yX0_cells yX0_cells, Cond.code yX0_cells cX0_cells 1 (some .int), Cond.fieldLink RX0 9 "TwoFacedTiles$Board" "rows" "I", Cond.fieldLink RX0 15 "TwoFacedTiles$Board" "columns" "I", Cond.methodLink RX6 272 yX0_hasPlacing]
def wsX6_why_r2 : List Cond := [Cond.instanceMethod yX0_hasPlacing, Cond.selects RX0 yX0_hasPlacing yX0_hasPlacing, Cond.code yX0_hasPlacing cX0_hasPlacing 2 (some .boolean), Cond.fieldLink RX0 21 "TwoFacedTiles$Board" "tiles" "I", Cond.methodLink RX6 114 yX6_reason, Cond.instanceMethod yX6_reason, Cond.selects RX6 yX6_reason yX6_reason, Cond.code yX6_reason cX6_reason 3 (some .int), Cond.fieldLink RX6 33 "TwoFacedTiles" "needs" "LTwoFacedTiles$Needs;", Cond.fieldLink RX6 278 "TwoFacedTiles$Board" "looks" "[I", Cond.methodLink RX6 130 yX0_isEmpty, Cond.instanceMethod yX0_isEmpty, Cond.selects RX0 yX0_isEmpty yX0_isEmpty, Cond.code yX0_isEmpty cX0_isEmpty 2 (some .boolean), Cond.fieldLink RX0 27 "TwoFacedTiles$Board" "placings" "[I", Cond.methodLink RX6 84 yX0_isLaid, Cond.instanceMethod yX0_isLaid, Cond.selects RX0 yX0_isLaid yX0_isLaid, Cond.code yX0_isLaid cX0_isLaid 2 (some .boolean), Cond.fieldLink RX0 31 "TwoFacedTiles$Board" "places" "[I", Cond.methodLink RX6 275 yX3_read, Cond.instanceMethod yX3_read, Cond.selects RX3 yX3_read yX3_read, Cond.initialized RX3]
def wsX6_why_r3 : List Cond := [Cond.code yX3_read cX3_read 6 none, Cond.fieldLink RX3 9 "TwoFacedTiles$Needs" "mustBeZero" "I", Cond.fieldLink RX3 15 "TwoFacedTiles$Needs" "mustAgree" "I", Cond.fieldLink RX3 18 "TwoFacedTiles$Needs" "wanted" "I", Cond.fieldLink RX3 21 "TwoFacedTiles$Needs" "forbiddenZero" "Z", Cond.fieldLink RX3 25 "TwoFacedTiles$Board" "rule" "I", Cond.methodLink RX3 30 yX3_ruledColors, Cond.static yX3_ruledColors, Cond.code yX3_ruledColors cX3_ruledColors 1 (some .int), Cond.constant RX3 55 (983055), Cond.methodLink RX3 34 yX0_neighbor, Cond.instanceMethod yX0_neighbor, Cond.selects RX0 yX0_neighbor yX0_neighbor, Cond.code yX0_neighbor cX0_neighbor 4 (some .int), Cond.methodLink RX3 38 yX0_isEmpty, Cond.methodLink RX3 42 yX0_lookIn, Cond.instanceMethod yX0_lookIn, Cond.selects RX0 yX0_lookIn yX0_lookIn, Cond.code yX0_lookIn cX0_lookIn 2 (some .int), Cond.fieldLink RX0 34 "TwoFacedTiles$Board" "looks" "[I", Cond.static yX6_opposite, Cond.code yX6_opposite cX6_opposite 1 (some .int), Cond.static yX6_colorsAt, Cond.code yX6_colorsAt cX6_colorsAt 2 (some .int)]
def wsX6_why_r4 : List Cond := [Cond.constant RX6 321 (983055), Cond.methodLink RX3 51 yX3_readNeighbor, Cond.instanceMethod yX3_readNeighbor, Cond.selects RX3 yX3_readNeighbor yX3_readNeighbor, Cond.code yX3_readNeighbor cX3_readNeighbor 4 none, Cond.constant RX3 56 (983040), Cond.methodLink RX6 281 yX3_reasonAgainst, Cond.instanceMethod yX3_reasonAgainst, Cond.selects RX3 yX3_reasonAgainst yX3_reasonAgainst, Cond.code yX3_reasonAgainst cX3_reasonAgainst 3 (some .int), Cond.constant RX3 57 (65535)]
def wsX6_why : List Cond := .code yX6_why cX6_why 3 (some .int) :: ((wsX6_why_r1 ++ (wsX6_why_r2 ++ (wsX6_why_r3 ++ wsX6_why_r4))) ++ wsX60 ++ wsX00 ++ wsX30 ++ (vx_atS RX6 216 "java/lang/IndexOutOfBoundsException" ["java/lang/RuntimeException", "java/lang/Exception"]).filter goodWord)
def wsX6_fittingPart_r1 : List Cond := [Cond.fieldLink RX6 12 "TwoFacedTiles" "board" "LTwoFacedTiles$Board;", Cond.constant RX6 311 (983040), Cond.methodLink RX6 308 yX0_pairsAlike, Cond.instanceMethod yX0_pairsAlike, Cond.selects RX0 yX0_pairsAlike yX0_pairsAlike, Cond.initialized RX0, Cond.code yX0_pairsAlike cX0_pairsAlike 4 (some .int), Cond.methodLink RX0 43 yX0_cells, Cond.instanceMethod yX0_cells, Cond.selects RX0 yX0_cells yX0_cells, Cond.code yX0_cells cX0_cells 1 (some .int), Cond.fieldLink RX0 9 "TwoFacedTiles$Board" "rows" "I", Cond.fieldLink RX0 15 "TwoFacedTiles$Board" "columns" "I", Cond.methodLink RX0 94 yX0_isAlike, Cond.instanceMethod yX0_isAlike, Cond.selects RX0 yX0_isAlike yX0_isAlike, Cond.code yX0_isAlike cX0_isAlike 7 (some .boolean), Cond.methodLink RX0 80 yX0_neighbor, Cond.instanceMethod yX0_neighbor, Cond.selects RX0 yX0_neighbor yX0_neighbor, Cond.code yX0_neighbor cX0_neighbor 4 (some .int), Cond.methodLink RX0 47 yX0_isEmpty, Cond.instanceMethod yX0_isEmpty, Cond.selects RX0 yX0_isEmpty yX0_isEmpty]
def wsX6_fittingPart_r2 : List Cond := [Cond.code yX0_isEmpty cX0_isEmpty 2 (some .boolean), Cond.fieldLink RX0 27 "TwoFacedTiles$Board" "placings" "[I", Cond.methodLink RX0 98 yX0_lookIn, Cond.instanceMethod yX0_lookIn, Cond.selects RX0 yX0_lookIn yX0_lookIn, Cond.code yX0_lookIn cX0_lookIn 2 (some .int), Cond.fieldLink RX0 34 "TwoFacedTiles$Board" "looks" "[I", Cond.static yX6_colorsAt, Cond.initialized RX6, Cond.code yX6_colorsAt cX6_colorsAt 2 (some .int), Cond.constant RX6 321 (983055), Cond.static yX6_opposite, Cond.code yX6_opposite cX6_opposite 1 (some .int)]
def wsX6_fittingPart : List Cond := .code yX6_fittingPart cX6_fittingPart 3 (some .double) :: ((wsX6_fittingPart_r1 ++ wsX6_fittingPart_r2) ++ wsX60 ++ wsX00)
def wsX6_fitting_r1 : List Cond := [Cond.methodLink RX6 248 yX6_fittingPart, Cond.instanceMethod yX6_fittingPart, Cond.selects RX6 yX6_fittingPart yX6_fittingPart, Cond.initialized RX6, Cond.code yX6_fittingPart cX6_fittingPart 3 (some .double), Cond.fieldLink RX6 12 "TwoFacedTiles" "board" "LTwoFacedTiles$Board;", Cond.constant RX6 311 (983040), Cond.methodLink RX6 308 yX0_pairsAlike, Cond.instanceMethod yX0_pairsAlike, Cond.selects RX0 yX0_pairsAlike yX0_pairsAlike, Cond.initialized RX0, Cond.code yX0_pairsAlike cX0_pairsAlike 4 (some .int), Cond.methodLink RX0 43 yX0_cells, Cond.instanceMethod yX0_cells, Cond.selects RX0 yX0_cells yX0_cells, Cond.code yX0_cells cX0_cells 1 (some .int), Cond.fieldLink RX0 9 "TwoFacedTiles$Board" "rows" "I", Cond.fieldLink RX0 15 "TwoFacedTiles$Board" "columns" "I", Cond.methodLink RX0 94 yX0_isAlike, Cond.instanceMethod yX0_isAlike, Cond.selects RX0 yX0_isAlike yX0_isAlike, Cond.code yX0_isAlike cX0_isAlike 7 (some .boolean), Cond.methodLink RX0 80 yX0_neighbor, Cond.instanceMethod yX0_neighbor]
def wsX6_fitting_r2 : List Cond := [Cond.selects RX0 yX0_neighbor yX0_neighbor, Cond.code yX0_neighbor cX0_neighbor 4 (some .int), Cond.methodLink RX0 47 yX0_isEmpty, Cond.instanceMethod yX0_isEmpty, Cond.selects RX0 yX0_isEmpty yX0_isEmpty, Cond.code yX0_isEmpty cX0_isEmpty 2 (some .boolean), Cond.fieldLink RX0 27 "TwoFacedTiles$Board" "placings" "[I", Cond.methodLink RX0 98 yX0_lookIn, Cond.instanceMethod yX0_lookIn, Cond.selects RX0 yX0_lookIn yX0_lookIn, Cond.code yX0_lookIn cX0_lookIn 2 (some .int), Cond.fieldLink RX0 34 "TwoFacedTiles$Board" "looks" "[I", Cond.static yX6_colorsAt, Cond.code yX6_colorsAt cX6_colorsAt 2 (some .int), Cond.constant RX6 321 (983055), Cond.static yX6_opposite, Cond.code yX6_opposite cX6_opposite 1 (some .int)]
def wsX6_fitting : List Cond := .code yX6_fitting cX6_fitting 1 (some .double) :: ((wsX6_fitting_r1 ++ wsX6_fitting_r2) ++ wsX60 ++ wsX00)
def wsL_cell : List Cond := .code yL_cell cL_cell 2 (some .int) :: ([.constant RL 7 (1540483477)])
def wsL_at : List Cond := .code yL_at cL_at 2 (some .int) :: ([])
def wsL_color : List Cond := .code yL_color cL_color 7 (some .int) :: ([])
def wsL_beyond : List Cond := .code yL_beyond cL_beyond 5 (some .int) :: ([])
def wsL_fits : List Cond := .code yL_fits cL_fits 11 (some .int) :: ([.methodLink RL 8 yL_color, .static yL_color, .initialized RL, .code yL_color cL_color 7 (some .int), .methodLink RL 14 yL_beyond, .static yL_beyond, .code yL_beyond cL_beyond 5 (some .int)])
def wsL_where : List Cond := .code yL_where cL_where 3 (some .int) :: ([])
def wsL_why : List Cond := .code yL_why cL_why 4 (some .int) :: ([.methodLink RL 18 yL_where, .static yL_where, .initialized RL, .code yL_where cL_where 3 (some .int), .methodLink RL 22 yL_fits, .static yL_fits, .code yL_fits cL_fits 11 (some .int), .methodLink RL 8 yL_color, .static yL_color, .code yL_color cL_color 7 (some .int), .methodLink RL 14 yL_beyond, .static yL_beyond, .code yL_beyond cL_beyond 5 (some .int)])
def wsL_search : List Cond := .code yL_search cL_search 10 none :: ([.arrayClass .int, .methodLink RL 26 yL_why, .static yL_why, .initialized RL, .code yL_why cL_why 4 (some .int), .methodLink RL 18 yL_where, .static yL_where, .code yL_where cL_where 3 (some .int), .methodLink RL 22 yL_fits, .static yL_fits, .code yL_fits cL_fits 11 (some .int), .methodLink RL 8 yL_color, .static yL_color, .code yL_color cL_color 7 (some .int), .methodLink RL 14 yL_beyond, .static yL_beyond, .code yL_beyond cL_beyond 5 (some .int)])
def wsL_told_r1 : List Cond := [Cond.arrayClass .int, Cond.methodLink RL 26 yL_why, Cond.static yL_why, Cond.initialized RL, Cond.code yL_why cL_why 4 (some .int), Cond.methodLink RL 18 yL_where, Cond.static yL_where, Cond.code yL_where cL_where 3 (some .int), Cond.methodLink RL 22 yL_fits, Cond.static yL_fits, Cond.code yL_fits cL_fits 11 (some .int), Cond.methodLink RL 8 yL_color, Cond.static yL_color, Cond.code yL_color cL_color 7 (some .int), Cond.methodLink RL 14 yL_beyond, Cond.static yL_beyond, Cond.code yL_beyond cL_beyond 5 (some .int), Cond.methodLink RL 29 yX6_cell, Cond.instanceMethod yX6_cell, Cond.selects RX6 yX6_cell yX6_cell, Cond.initialized RX6, Cond.code yX6_cell cX6_cell 3 (some .int), Cond.classLink RX6 55 "java/lang/IllegalArgumentException", Cond.initialized "java/lang/IllegalArgumentException"]
def wsL_told_r2 : List Cond := [Cond.methodLink RX6 126 yX6_requireCell, Cond.instanceMethod yX6_requireCell, Cond.selects RX6 yX6_requireCell yX6_requireCell, Cond.code yX6_requireCell cX6_requireCell 2 none, Cond.classLink RX6 212 "java/lang/IndexOutOfBoundsException", Cond.initialized "java/lang/IndexOutOfBoundsException", Cond.fieldLink RX6 12 "TwoFacedTiles" "board" "LTwoFacedTiles$Board;", Cond.methodLink RX6 267 yX0_hasCell, Cond.instanceMethod yX0_hasCell, Cond.selects RX0 yX0_hasCell yX0_hasCell, Cond.initialized RX0, Cond.code yX0_hasCell cX0_hasCell 2 (some .boolean), Cond.methodLink RX0 43 yX0_cells, Cond.instanceMethod yX0_cells, Cond.selects RX0 yX0_cells yX0_cells, Cond.code yX0_cells cX0_cells 1 (some .int), Cond.fieldLink RX0 9 "TwoFacedTiles$Board" "rows" "I", Cond.fieldLink RX0 15 "TwoFacedTiles$Board" "columns" "I", Cond.methodLink RX6 209 yX6_cellProperty, Cond.instanceMethod yX6_cellProperty, Cond.selects RX6 yX6_cellProperty yX6_cellProperty, Cond.code yX6_cellProperty cX6_cellProperty 3 (some .int), Cond.fieldLink RX6 138 "TwoFacedTiles$Board" "placings" "[I", Cond.methodLink RX6 133 yX0_isFixed]
def wsL_told_r3 : List Cond := [Cond.instanceMethod yX0_isFixed, Cond.selects RX0 yX0_isFixed yX0_isFixed, Cond.code yX0_isFixed cX0_isFixed 2 (some .boolean), Cond.fieldLink RX0 24 "TwoFacedTiles$Board" "fixed" "I", Cond.methodLink RX6 284 yX6_possibleCount, Cond.instanceMethod yX6_possibleCount, Cond.selects RX6 yX6_possibleCount yX6_possibleCount, Cond.code yX6_possibleCount cX6_possibleCount 4 (some .int), Cond.fieldLink RX6 33 "TwoFacedTiles" "needs" "LTwoFacedTiles$Needs;", Cond.fieldLink RX6 72 "TwoFacedTiles$Board" "tiles" "I", Cond.methodLink RX6 130 yX0_isEmpty, Cond.instanceMethod yX0_isEmpty, Cond.selects RX0 yX0_isEmpty yX0_isEmpty, Cond.code yX0_isEmpty cX0_isEmpty 2 (some .boolean), Cond.fieldLink RX0 27 "TwoFacedTiles$Board" "placings" "[I", Cond.methodLink RX6 275 yX3_read, Cond.instanceMethod yX3_read, Cond.selects RX3 yX3_read yX3_read, Cond.initialized RX3, Cond.code yX3_read cX3_read 6 none, Cond.fieldLink RX3 9 "TwoFacedTiles$Needs" "mustBeZero" "I", Cond.fieldLink RX3 15 "TwoFacedTiles$Needs" "mustAgree" "I", Cond.fieldLink RX3 18 "TwoFacedTiles$Needs" "wanted" "I", Cond.fieldLink RX3 21 "TwoFacedTiles$Needs" "forbiddenZero" "Z"]
def wsL_told_r4 : List Cond := [Cond.fieldLink RX3 25 "TwoFacedTiles$Board" "rule" "I", Cond.methodLink RX3 30 yX3_ruledColors, Cond.static yX3_ruledColors, Cond.code yX3_ruledColors cX3_ruledColors 1 (some .int), Cond.constant RX3 55 (983055), Cond.methodLink RX3 34 yX0_neighbor, Cond.instanceMethod yX0_neighbor, Cond.selects RX0 yX0_neighbor yX0_neighbor, Cond.code yX0_neighbor cX0_neighbor 4 (some .int), Cond.methodLink RX3 38 yX0_isEmpty, Cond.methodLink RX3 42 yX0_lookIn, Cond.instanceMethod yX0_lookIn, Cond.selects RX0 yX0_lookIn yX0_lookIn, Cond.code yX0_lookIn cX0_lookIn 2 (some .int), Cond.fieldLink RX0 34 "TwoFacedTiles$Board" "looks" "[I", Cond.static yX6_opposite, Cond.code yX6_opposite cX6_opposite 1 (some .int), Cond.static yX6_colorsAt, Cond.code yX6_colorsAt cX6_colorsAt 2 (some .int), Cond.constant RX6 321 (983055), Cond.methodLink RX3 51 yX3_readNeighbor, Cond.instanceMethod yX3_readNeighbor, Cond.selects RX3 yX3_readNeighbor yX3_readNeighbor, Cond.code yX3_readNeighbor cX3_readNeighbor 4 none]
def wsL_told_r5 : List Cond := [Cond.constant RX3 56 (983040), Cond.methodLink RX6 290 yX6_meetsNeeds, Cond.instanceMethod yX6_meetsNeeds, Cond.selects RX6 yX6_meetsNeeds yX6_meetsNeeds, Cond.code yX6_meetsNeeds cX6_meetsNeeds 2 (some .boolean), Cond.fieldLink RX6 278 "TwoFacedTiles$Board" "looks" "[I", Cond.methodLink RX6 84 yX0_isLaid, Cond.instanceMethod yX0_isLaid, Cond.selects RX0 yX0_isLaid yX0_isLaid, Cond.code yX0_isLaid cX0_isLaid 2 (some .boolean), Cond.fieldLink RX0 31 "TwoFacedTiles$Board" "places" "[I", Cond.methodLink RX6 281 yX3_reasonAgainst, Cond.instanceMethod yX3_reasonAgainst, Cond.selects RX3 yX3_reasonAgainst yX3_reasonAgainst, Cond.code yX3_reasonAgainst cX3_reasonAgainst 3 (some .int), Cond.constant RX3 57 (65535), Cond.methodLink RX6 287 yX6_firstPossible, Cond.instanceMethod yX6_firstPossible, Cond.selects RX6 yX6_firstPossible yX6_firstPossible, Cond.code yX6_firstPossible cX6_firstPossible 3 (some .int), Cond.methodLink RL 35 yX6_color, Cond.instanceMethod yX6_color, Cond.selects RX6 yX6_color yX6_color, Cond.code yX6_color cX6_color 4 (some .int)]
def wsL_told_r6 : List Cond := [Cond.methodLink RX6 217 yX6_colorAt, Cond.instanceMethod yX6_colorAt, Cond.selects RX6 yX6_colorAt yX6_colorAt, Cond.code yX6_colorAt cX6_colorAt 5 (some .int), Cond.methodLink RX6 293 yX0_lookIn, Cond.methodLink RX6 296 yX6_colorsAt, Cond.methodLink RL 38 yX6_tile, Cond.instanceMethod yX6_tile, Cond.selects RX6 yX6_tile yX6_tile, Cond.code yX6_tile cX6_tile 3 (some .int), Cond.methodLink RX6 223 yX6_tileProperty, Cond.instanceMethod yX6_tileProperty, Cond.selects RX6 yX6_tileProperty yX6_tileProperty, Cond.code yX6_tileProperty cX6_tileProperty 3 (some .int), Cond.fieldLink RX6 302 "TwoFacedTiles$Board" "places" "[I", Cond.methodLink RX6 299 yX0_faceOf, Cond.instanceMethod yX0_faceOf, Cond.selects RX0 yX0_faceOf yX0_faceOf, Cond.code yX0_faceOf cX0_faceOf 6 (some .int), Cond.methodLink RX6 305 yX0_lowestLike, Cond.instanceMethod yX0_lowestLike, Cond.selects RX0 yX0_lowestLike yX0_lowestLike, Cond.code yX0_lowestLike cX0_lowestLike 4 (some .int), Cond.methodLink RL 41 yL_at]
def wsL_told_r7 : List Cond := [Cond.static yL_at, Cond.code yL_at cL_at 2 (some .int), Cond.methodLink RL 44 yX6_why, Cond.instanceMethod yX6_why, Cond.selects RX6 yX6_why yX6_why, Cond.code yX6_why cX6_why 3 (some .int), Cond.methodLink RX6 111 yX6_requirePlacing, Cond.instanceMethod yX6_requirePlacing, Cond.selects RX6 yX6_requirePlacing yX6_requirePlacing, Cond.code yX6_requirePlacing cX6_requirePlacing 3 none, Cond.methodLink RX6 272 yX0_hasPlacing, Cond.instanceMethod yX0_hasPlacing, Cond.selects RX0 yX0_hasPlacing yX0_hasPlacing, Cond.code yX0_hasPlacing cX0_hasPlacing 2 (some .boolean), Cond.fieldLink RX0 21 "TwoFacedTiles$Board" "tiles" "I", Cond.methodLink RX6 114 yX6_reason, Cond.instanceMethod yX6_reason, Cond.selects RX6 yX6_reason yX6_reason, Cond.code yX6_reason cX6_reason 3 (some .int), Cond.methodLink RL 46 yL_search, Cond.static yL_search, Cond.code yL_search cL_search 10 none, Cond.methodLink RL 50 yX6_layings, Cond.instanceMethod yX6_layings]
def wsL_told_r8 : List Cond := [Cond.selects RX6 yX6_layings yX6_layings, Cond.code yX6_layings cX6_layings 3 (some .int), Cond.fieldLink RX6 40 "TwoFacedTiles" "search" "LTwoFacedTiles$Search;", Cond.methodLink RX6 157 yX4_run, Cond.instanceMethod yX4_run, Cond.selects RX4 yX4_run yX4_run, Cond.initialized RX4, Cond.code yX4_run cX4_run 3 none, Cond.fieldLink RX4 12 "TwoFacedTiles$Search" "trial" "LTwoFacedTiles$Board;", Cond.methodLink RX4 42 yX0_copyFrom, Cond.instanceMethod yX0_copyFrom, Cond.selects RX0 yX0_copyFrom yX0_copyFrom, Cond.code yX0_copyFrom cX0_copyFrom 2 none, Cond.fieldLink RX0 18 "TwoFacedTiles$Board" "rule" "I", Cond.methodLink RX0 37 arraycopyName, Cond.native arraycopyName, Cond.static arraycopyName, Cond.initialized "java/lang/System", Cond.methodLink RX4 46 yX4_runTrial, Cond.instanceMethod yX4_runTrial, Cond.selects RX4 yX4_runTrial yX4_runTrial, Cond.code yX4_runTrial cX4_runTrial 2 none, Cond.fieldLink RX4 28 "TwoFacedTiles$Search" "most" "I", Cond.fieldLink RX4 18 "TwoFacedTiles$Search" "found" "I"]
def wsL_told_r9 : List Cond := [Cond.fieldLink RX4 31 "TwoFacedTiles$Search" "steps" "I", Cond.fieldLink RX4 34 "TwoFacedTiles$Search" "tooManySteps" "Z", Cond.fieldLink RX4 38 "TwoFacedTiles$Search" "over" "Z", Cond.methodLink RX4 54 yX4_fillFrom, Cond.instanceMethod yX4_fillFrom, Cond.selects RX4 yX4_fillFrom yX4_fillFrom, Cond.code yX4_fillFrom cX4_fillFrom 7 none, Cond.fieldLink RX4 24 "TwoFacedTiles$Search" "needs" "[LTwoFacedTiles$Needs;", Cond.fieldLink RX4 69 "TwoFacedTiles$Board" "tiles" "I", Cond.fieldLink RX4 75 "TwoFacedTiles$Board" "looks" "[I", Cond.methodLink RX4 57 yX0_cells, Cond.methodLink RX4 61 yX0_isEmpty, Cond.methodLink RX4 65 yX3_read, Cond.methodLink RX4 72 yX0_isLaid, Cond.methodLink RX4 79 yX3_reasonAgainst, Cond.methodLink RX4 82 yX4_tryPlacing, Cond.instanceMethod yX4_tryPlacing, Cond.selects RX4 yX4_tryPlacing yX4_tryPlacing, Cond.code yX4_tryPlacing cX4_tryPlacing 3 none, Cond.methodLink RX4 86 yX0_put, Cond.instanceMethod yX0_put, Cond.selects RX0 yX0_put yX0_put, Cond.code yX0_put cX0_put 3 none, Cond.methodLink RX4 89 yX0_remove]
def wsL_told_r10 : List Cond := [Cond.instanceMethod yX0_remove, Cond.selects RX0 yX0_remove yX0_remove, Cond.code yX0_remove cX0_remove 2 none, Cond.methodLink RX6 233 yX4_result, Cond.instanceMethod yX4_result, Cond.selects RX4 yX4_result yX4_result, Cond.code yX4_result cX4_result 2 (some .int), Cond.methodLink RL 53 yX6_fitting, Cond.instanceMethod yX6_fitting, Cond.selects RX6 yX6_fitting yX6_fitting, Cond.code yX6_fitting cX6_fitting 1 (some .double), Cond.methodLink RX6 248 yX6_fittingPart, Cond.instanceMethod yX6_fittingPart, Cond.selects RX6 yX6_fittingPart yX6_fittingPart, Cond.code yX6_fittingPart cX6_fittingPart 3 (some .double), Cond.constant RX6 311 (983040), Cond.methodLink RX6 308 yX0_pairsAlike, Cond.instanceMethod yX0_pairsAlike, Cond.selects RX0 yX0_pairsAlike yX0_pairsAlike, Cond.code yX0_pairsAlike cX0_pairsAlike 4 (some .int), Cond.methodLink RX0 94 yX0_isAlike, Cond.instanceMethod yX0_isAlike, Cond.selects RX0 yX0_isAlike yX0_isAlike, Cond.code yX0_isAlike cX0_isAlike 7 (some .boolean)]
def wsL_told_r11 : List Cond := [Cond.methodLink RX0 80 yX0_neighbor, Cond.methodLink RX0 47 yX0_isEmpty, Cond.methodLink RX0 98 yX0_lookIn, Cond.methodLink RL 57 yX6_hint, Cond.instanceMethod yX6_hint, Cond.selects RX6 yX6_hint yX6_hint, Cond.code yX6_hint cX6_hint 1 (some .int), Cond.methodLink RX6 236 yX6_bestStep, Cond.instanceMethod yX6_bestStep, Cond.selects RX6 yX6_bestStep yX6_bestStep, Cond.code yX6_bestStep cX6_bestStep 5 (some .int), Cond.methodLink RX6 66 yX0_cells, Cond.methodLink RL 61 yX6_count, Cond.instanceMethod yX6_count, Cond.selects RX6 yX6_count yX6_count, Cond.code yX6_count cX6_count 2 (some .int), Cond.methodLink RX6 228 yX6_number, Cond.instanceMethod yX6_number, Cond.selects RX6 yX6_number yX6_number, Cond.code yX6_number cX6_number 2 (some .int), Cond.fieldLink RX6 98 "TwoFacedTiles$Board" "rows" "I", Cond.fieldLink RX6 101 "TwoFacedTiles$Board" "columns" "I", Cond.fieldLink RX6 147 "TwoFacedTiles$Board" "fixed" "I", Cond.fieldLink RX6 92 "TwoFacedTiles$Board" "rule" "I"]
def wsL_told_r12 : List Cond := [Cond.fieldLink RX6 19 "TwoFacedTiles" "history" "LTwoFacedTiles$History;", Cond.fieldLink RX6 199 "TwoFacedTiles$History" "kept" "I", Cond.methodLink RX6 123 yX0_emptyCells, Cond.instanceMethod yX0_emptyCells, Cond.selects RX0 yX0_emptyCells yX0_emptyCells, Cond.code yX0_emptyCells cX0_emptyCells 3 (some .int), Cond.methodLink RX6 239 yJ6_bitCount_0f7a4, Cond.static yJ6_bitCount_0f7a4, Cond.initialized RJ6, Cond.code yJ6_bitCount_0f7a4 cJ6_bitCount_0f7a4 1 (some .int), Cond.constant RJ6 265 (1431655765), Cond.constant RJ6 266 (858993459), Cond.constant RJ6 267 (252645135), Cond.methodLink RX6 312 yX6_misfits, Cond.instanceMethod yX6_misfits, Cond.selects RX6 yX6_misfits yX6_misfits, Cond.code yX6_misfits cX6_misfits 3 (some .int)]
def wsL_told : List Cond := .code yL_told cL_told 20 (some .boolean) :: ((wsL_told_r1 ++ (wsL_told_r2 ++ (wsL_told_r3 ++ (wsL_told_r4 ++ (wsL_told_r5 ++ (wsL_told_r6 ++ (wsL_told_r7 ++ (wsL_told_r8 ++ (wsL_told_r9 ++ (wsL_told_r10 ++ (wsL_told_r11 ++ wsL_told_r12))))))))))) ++ wsX60 ++ wsX00 ++ wsX30 ++ wsX40 ++ wsX20 ++ (vx_atS RX6 59 "java/lang/IllegalArgumentException" ["java/lang/RuntimeException", "java/lang/Exception"]).filter goodWord ++ (vx_atS RX6 216 "java/lang/IndexOutOfBoundsException" ["java/lang/RuntimeException", "java/lang/Exception"]).filter goodWord)
def wsL_cut : List Cond := .code yL_cut cL_cut 11 none :: ([.methodLink RL 14 yL_beyond, .static yL_beyond, .initialized RL, .code yL_beyond cL_beyond 5 (some .int)])
def wsL_act_r1 : List Cond := [Cond.constant RL 68 (99999999), Cond.arrayClass .int, Cond.methodLink RL 41 yL_at, Cond.static yL_at, Cond.initialized RL, Cond.code yL_at cL_at 2 (some .int), Cond.methodLink RL 65 yX6_begin, Cond.instanceMethod yX6_begin, Cond.selects RX6 yX6_begin yX6_begin, Cond.initialized RX6, Cond.code yX6_begin cX6_begin 3 (some .int), Cond.classLink RX6 55 "java/lang/IllegalArgumentException", Cond.initialized "java/lang/IllegalArgumentException", Cond.fieldLink RX6 19 "TwoFacedTiles" "history" "LTwoFacedTiles$History;", Cond.fieldLink RX6 12 "TwoFacedTiles" "board" "LTwoFacedTiles$Board;", Cond.methodLink RX6 62 yX2_save, Cond.instanceMethod yX2_save, Cond.selects RX2 yX2_save yX2_save, Cond.initialized RX2, Cond.code yX2_save cX2_save 2 none, Cond.fieldLink RX2 21 "TwoFacedTiles$History" "kept" "I", Cond.fieldLink RX2 17 "TwoFacedTiles$History" "oldest" "I", Cond.fieldLink RX2 11 "TwoFacedTiles$History" "states" "[LTwoFacedTiles$Board;", Cond.methodLink RX2 25 yX0_copyFrom]
def wsL_act_r2 : List Cond := [Cond.instanceMethod yX0_copyFrom, Cond.selects RX0 yX0_copyFrom yX0_copyFrom, Cond.initialized RX0, Cond.code yX0_copyFrom cX0_copyFrom 2 none, Cond.fieldLink RX0 9 "TwoFacedTiles$Board" "rows" "I", Cond.fieldLink RX0 15 "TwoFacedTiles$Board" "columns" "I", Cond.fieldLink RX0 18 "TwoFacedTiles$Board" "rule" "I", Cond.fieldLink RX0 21 "TwoFacedTiles$Board" "tiles" "I", Cond.fieldLink RX0 24 "TwoFacedTiles$Board" "fixed" "I", Cond.fieldLink RX0 27 "TwoFacedTiles$Board" "placings" "[I", Cond.methodLink RX0 37 arraycopyName, Cond.native arraycopyName, Cond.static arraycopyName, Cond.initialized "java/lang/System", Cond.fieldLink RX0 31 "TwoFacedTiles$Board" "places" "[I", Cond.fieldLink RX0 34 "TwoFacedTiles$Board" "looks" "[I", Cond.methodLink RX6 51 yX0_makeEmpty, Cond.instanceMethod yX0_makeEmpty, Cond.selects RX0 yX0_makeEmpty yX0_makeEmpty, Cond.code yX0_makeEmpty cX0_makeEmpty 4 none, Cond.methodLink RX6 66 yX0_cells, Cond.instanceMethod yX0_cells, Cond.selects RX0 yX0_cells yX0_cells, Cond.code yX0_cells cX0_cells 1 (some .int)]
def wsL_act_r3 : List Cond := [Cond.methodLink RL 69 yL_cut, Cond.static yL_cut, Cond.code yL_cut cL_cut 11 none, Cond.methodLink RL 14 yL_beyond, Cond.static yL_beyond, Cond.code yL_beyond cL_beyond 5 (some .int), Cond.methodLink RL 73 yX6_cut, Cond.instanceMethod yX6_cut, Cond.selects RX6 yX6_cut yX6_cut, Cond.code yX6_cut cX6_cut 3 (some .int), Cond.constant RX6 95 (999999999), Cond.fieldLink RX6 98 "TwoFacedTiles$Board" "rows" "I", Cond.fieldLink RX6 101 "TwoFacedTiles$Board" "columns" "I", Cond.fieldLink RX6 47 "TwoFacedTiles" "draws" "LTwoFacedTiles$Draws;", Cond.fieldLink RX6 72 "TwoFacedTiles$Board" "tiles" "I", Cond.methodLink RX6 104 yX1_start, Cond.instanceMethod yX1_start, Cond.selects RX1 yX1_start yX1_start, Cond.initialized RX1, Cond.code yX1_start cX1_start 3 none, Cond.fieldLink RX1 7 "TwoFacedTiles$Draws" "seed" "I", Cond.fieldLink RX1 13 "TwoFacedTiles$Draws" "colors" "I", Cond.fieldLink RX1 16 "TwoFacedTiles$Draws" "rest" "I", Cond.methodLink RX6 107 yX0_cutTiles]
def wsL_act_r4 : List Cond := [Cond.instanceMethod yX0_cutTiles, Cond.selects RX0 yX0_cutTiles yX0_cutTiles, Cond.code yX0_cutTiles cX0_cutTiles 3 none, Cond.methodLink RX0 43 yX0_cells, Cond.methodLink RX0 76 yX0_cutSide, Cond.instanceMethod yX0_cutSide, Cond.selects RX0 yX0_cutSide yX0_cutSide, Cond.code yX0_cutSide cX0_cutSide 8 none, Cond.methodLink RX0 80 yX0_neighbor, Cond.instanceMethod yX0_neighbor, Cond.selects RX0 yX0_neighbor yX0_neighbor, Cond.code yX0_neighbor cX0_neighbor 4 (some .int), Cond.methodLink RX0 83 yX1_next, Cond.instanceMethod yX1_next, Cond.selects RX1 yX1_next yX1_next, Cond.code yX1_next cX1_next 2 (some .int), Cond.static yX6_opposite, Cond.code yX6_opposite cX6_opposite 1 (some .int), Cond.methodLink RX0 67 yX0_makeWays, Cond.instanceMethod yX0_makeWays, Cond.selects RX0 yX0_makeWays yX0_makeWays, Cond.code yX0_makeWays cX0_makeWays 4 none, Cond.static yX6_turnedOver, Cond.code yX6_turnedOver cX6_turnedOver 5 (some .int)]
def wsL_act_r5 : List Cond := [Cond.methodLink RX6 296 yX6_colorsAt, Cond.static yX6_colorsAt, Cond.code yX6_colorsAt cX6_colorsAt 2 (some .int), Cond.constant RX6 321 (983055), Cond.methodLink RX6 322 yX6_seenFromBehind, Cond.static yX6_seenFromBehind, Cond.code yX6_seenFromBehind cX6_seenFromBehind 1 (some .int), Cond.static yX6_turned, Cond.code yX6_turned cX6_turned 3 (some .int), Cond.methodLink RL 26 yL_why, Cond.static yL_why, Cond.code yL_why cL_why 4 (some .int), Cond.methodLink RL 18 yL_where, Cond.static yL_where, Cond.code yL_where cL_where 3 (some .int), Cond.methodLink RL 22 yL_fits, Cond.static yL_fits, Cond.code yL_fits cL_fits 11 (some .int), Cond.methodLink RL 8 yL_color, Cond.static yL_color, Cond.code yL_color cL_color 7 (some .int), Cond.methodLink RL 75 yX6_lay, Cond.instanceMethod yX6_lay, Cond.selects RX6 yX6_lay yX6_lay]
def wsL_act_r6 : List Cond := [Cond.code yX6_lay cX6_lay 3 (some .int), Cond.classLink RX6 76 "java/lang/IllegalStateException", Cond.initialized "java/lang/IllegalStateException", Cond.methodLink RX6 111 yX6_requirePlacing, Cond.instanceMethod yX6_requirePlacing, Cond.selects RX6 yX6_requirePlacing yX6_requirePlacing, Cond.code yX6_requirePlacing cX6_requirePlacing 3 none, Cond.classLink RX6 212 "java/lang/IndexOutOfBoundsException", Cond.initialized "java/lang/IndexOutOfBoundsException", Cond.methodLink RX6 126 yX6_requireCell, Cond.instanceMethod yX6_requireCell, Cond.selects RX6 yX6_requireCell yX6_requireCell, Cond.code yX6_requireCell cX6_requireCell 2 none, Cond.methodLink RX6 267 yX0_hasCell, Cond.instanceMethod yX0_hasCell, Cond.selects RX0 yX0_hasCell yX0_hasCell, Cond.code yX0_hasCell cX0_hasCell 2 (some .boolean), Cond.methodLink RX6 272 yX0_hasPlacing, Cond.instanceMethod yX0_hasPlacing, Cond.selects RX0 yX0_hasPlacing yX0_hasPlacing, Cond.code yX0_hasPlacing cX0_hasPlacing 2 (some .boolean), Cond.methodLink RX6 114 yX6_reason, Cond.instanceMethod yX6_reason, Cond.selects RX6 yX6_reason yX6_reason]
def wsL_act_r7 : List Cond := [Cond.code yX6_reason cX6_reason 3 (some .int), Cond.fieldLink RX6 33 "TwoFacedTiles" "needs" "LTwoFacedTiles$Needs;", Cond.fieldLink RX6 278 "TwoFacedTiles$Board" "looks" "[I", Cond.methodLink RX6 130 yX0_isEmpty, Cond.instanceMethod yX0_isEmpty, Cond.selects RX0 yX0_isEmpty yX0_isEmpty, Cond.code yX0_isEmpty cX0_isEmpty 2 (some .boolean), Cond.methodLink RX6 84 yX0_isLaid, Cond.instanceMethod yX0_isLaid, Cond.selects RX0 yX0_isLaid yX0_isLaid, Cond.code yX0_isLaid cX0_isLaid 2 (some .boolean), Cond.methodLink RX6 275 yX3_read, Cond.instanceMethod yX3_read, Cond.selects RX3 yX3_read yX3_read, Cond.initialized RX3, Cond.code yX3_read cX3_read 6 none, Cond.fieldLink RX3 9 "TwoFacedTiles$Needs" "mustBeZero" "I", Cond.fieldLink RX3 15 "TwoFacedTiles$Needs" "mustAgree" "I", Cond.fieldLink RX3 18 "TwoFacedTiles$Needs" "wanted" "I", Cond.fieldLink RX3 21 "TwoFacedTiles$Needs" "forbiddenZero" "Z", Cond.fieldLink RX3 25 "TwoFacedTiles$Board" "rule" "I", Cond.methodLink RX3 30 yX3_ruledColors, Cond.static yX3_ruledColors, Cond.code yX3_ruledColors cX3_ruledColors 1 (some .int)]
def wsL_act_r8 : List Cond := [Cond.constant RX3 55 (983055), Cond.methodLink RX3 34 yX0_neighbor, Cond.methodLink RX3 38 yX0_isEmpty, Cond.methodLink RX3 42 yX0_lookIn, Cond.instanceMethod yX0_lookIn, Cond.selects RX0 yX0_lookIn yX0_lookIn, Cond.code yX0_lookIn cX0_lookIn 2 (some .int), Cond.methodLink RX3 51 yX3_readNeighbor, Cond.instanceMethod yX3_readNeighbor, Cond.selects RX3 yX3_readNeighbor yX3_readNeighbor, Cond.code yX3_readNeighbor cX3_readNeighbor 4 none, Cond.constant RX3 56 (983040), Cond.methodLink RX6 281 yX3_reasonAgainst, Cond.instanceMethod yX3_reasonAgainst, Cond.selects RX3 yX3_reasonAgainst yX3_reasonAgainst, Cond.code yX3_reasonAgainst cX3_reasonAgainst 3 (some .int), Cond.constant RX3 57 (65535), Cond.methodLink RX6 120 yX0_put, Cond.instanceMethod yX0_put, Cond.selects RX0 yX0_put yX0_put, Cond.code yX0_put cX0_put 3 none, Cond.methodLink RX6 123 yX0_emptyCells, Cond.instanceMethod yX0_emptyCells, Cond.selects RX0 yX0_emptyCells yX0_emptyCells]
def wsL_act_r9 : List Cond := [Cond.code yX0_emptyCells cX0_emptyCells 3 (some .int), Cond.methodLink RX0 47 yX0_isEmpty, Cond.methodLink RL 78 yX6_take, Cond.instanceMethod yX6_take, Cond.selects RX6 yX6_take yX6_take, Cond.code yX6_take cX6_take 3 (some .int), Cond.fieldLink RX6 138 "TwoFacedTiles$Board" "placings" "[I", Cond.methodLink RX6 133 yX0_isFixed, Cond.instanceMethod yX0_isFixed, Cond.selects RX0 yX0_isFixed yX0_isFixed, Cond.code yX0_isFixed cX0_isFixed 2 (some .boolean), Cond.methodLink RX6 142 yX0_remove, Cond.instanceMethod yX0_remove, Cond.selects RX0 yX0_remove yX0_remove, Cond.code yX0_remove cX0_remove 2 none, Cond.methodLink RL 81 yX6_fix, Cond.instanceMethod yX6_fix, Cond.selects RX6 yX6_fix yX6_fix, Cond.code yX6_fix cX6_fix 2 (some .int), Cond.fieldLink RX6 147 "TwoFacedTiles$Board" "fixed" "I", Cond.methodLink RL 84 yX6_setRule, Cond.instanceMethod yX6_setRule, Cond.selects RX6 yX6_setRule yX6_setRule, Cond.code yX6_setRule cX6_setRule 3 (some .int)]
def wsL_act_r10 : List Cond := [Cond.fieldLink RX6 92 "TwoFacedTiles$Board" "rule" "I", Cond.methodLink RL 87 yX6_clear, Cond.instanceMethod yX6_clear, Cond.selects RX6 yX6_clear yX6_clear, Cond.code yX6_clear cX6_clear 1 (some .int), Cond.methodLink RX6 150 yX0_removeAllBut, Cond.instanceMethod yX0_removeAllBut, Cond.selects RX0 yX0_removeAllBut yX0_removeAllBut, Cond.code yX0_removeAllBut cX0_removeAllBut 4 (some .int), Cond.methodLink RX0 51 yX0_remove, Cond.methodLink RL 90 yX6_turnOver, Cond.instanceMethod yX6_turnOver, Cond.selects RX6 yX6_turnOver yX6_turnOver, Cond.code yX6_turnOver cX6_turnOver 1 (some .int), Cond.methodLink RX6 154 yX0_mirror, Cond.instanceMethod yX0_mirror, Cond.selects RX0 yX0_mirror yX0_mirror, Cond.code yX0_mirror cX0_mirror 6 none, Cond.methodLink RX0 55 yX0_swapTurnedOver, Cond.instanceMethod yX0_swapTurnedOver, Cond.selects RX0 yX0_swapTurnedOver yX0_swapTurnedOver, Cond.code yX0_swapTurnedOver cX0_swapTurnedOver 4 none, Cond.static yX6_placingTurnedOver, Cond.code yX6_placingTurnedOver cX6_placingTurnedOver 4 (some .int)]
def wsL_act_r11 : List Cond := [Cond.methodLink RL 93 yX6_addTile, Cond.instanceMethod yX6_addTile, Cond.selects RX6 yX6_addTile yX6_addTile, Cond.code yX6_addTile cX6_addTile 3 (some .int), Cond.methodLink RX6 81 yX0_addFaces, Cond.instanceMethod yX0_addFaces, Cond.selects RX0 yX0_addFaces yX0_addFaces, Cond.code yX0_addFaces cX0_addFaces 3 none, Cond.static yX6_lookOfFaces, Cond.code yX6_lookOfFaces cX6_lookOfFaces 6 (some .int), Cond.methodLink RX6 325 yX6_digit, Cond.static yX6_digit, Cond.code yX6_digit cX6_digit 4 (some .int), Cond.methodLink RL 96 yX6_dropTile, Cond.instanceMethod yX6_dropTile, Cond.selects RX6 yX6_dropTile yX6_dropTile, Cond.code yX6_dropTile cX6_dropTile 1 (some .int), Cond.methodLink RL 46 yL_search, Cond.static yL_search, Cond.code yL_search cL_search 10 none, Cond.methodLink RL 99 yX6_solve, Cond.instanceMethod yX6_solve, Cond.selects RX6 yX6_solve yX6_solve, Cond.code yX6_solve cX6_solve 2 (some .int)]
def wsL_act_r12 : List Cond := [Cond.fieldLink RX6 40 "TwoFacedTiles" "search" "LTwoFacedTiles$Search;", Cond.fieldLink RX6 161 "TwoFacedTiles$Search" "found" "I", Cond.fieldLink RX6 166 "TwoFacedTiles$Search" "trial" "LTwoFacedTiles$Board;", Cond.methodLink RX6 157 yX4_run, Cond.instanceMethod yX4_run, Cond.selects RX4 yX4_run yX4_run, Cond.initialized RX4, Cond.code yX4_run cX4_run 3 none, Cond.fieldLink RX4 12 "TwoFacedTiles$Search" "trial" "LTwoFacedTiles$Board;", Cond.methodLink RX4 42 yX0_copyFrom, Cond.methodLink RX4 46 yX4_runTrial, Cond.instanceMethod yX4_runTrial, Cond.selects RX4 yX4_runTrial yX4_runTrial, Cond.code yX4_runTrial cX4_runTrial 2 none, Cond.fieldLink RX4 28 "TwoFacedTiles$Search" "most" "I", Cond.fieldLink RX4 18 "TwoFacedTiles$Search" "found" "I", Cond.fieldLink RX4 31 "TwoFacedTiles$Search" "steps" "I", Cond.fieldLink RX4 34 "TwoFacedTiles$Search" "tooManySteps" "Z", Cond.fieldLink RX4 38 "TwoFacedTiles$Search" "over" "Z", Cond.methodLink RX4 54 yX4_fillFrom, Cond.instanceMethod yX4_fillFrom, Cond.selects RX4 yX4_fillFrom yX4_fillFrom, Cond.code yX4_fillFrom cX4_fillFrom 7 none, Cond.fieldLink RX4 24 "TwoFacedTiles$Search" "needs" "[LTwoFacedTiles$Needs;"]
def wsL_act_r13 : List Cond := [Cond.fieldLink RX4 69 "TwoFacedTiles$Board" "tiles" "I", Cond.fieldLink RX4 75 "TwoFacedTiles$Board" "looks" "[I", Cond.methodLink RX4 57 yX0_cells, Cond.methodLink RX4 61 yX0_isEmpty, Cond.methodLink RX4 65 yX3_read, Cond.methodLink RX4 72 yX0_isLaid, Cond.methodLink RX4 79 yX3_reasonAgainst, Cond.methodLink RX4 82 yX4_tryPlacing, Cond.instanceMethod yX4_tryPlacing, Cond.selects RX4 yX4_tryPlacing yX4_tryPlacing, Cond.code yX4_tryPlacing cX4_tryPlacing 3 none, Cond.methodLink RX4 86 yX0_put, Cond.methodLink RX4 89 yX0_remove, Cond.methodLink RX6 169 yX0_copyFrom]
def wsL_act : List Cond := .code yL_act cL_act 13 (some .boolean) :: ((wsL_act_r1 ++ (wsL_act_r2 ++ (wsL_act_r3 ++ (wsL_act_r4 ++ (wsL_act_r5 ++ (wsL_act_r6 ++ (wsL_act_r7 ++ (wsL_act_r8 ++ (wsL_act_r9 ++ (wsL_act_r10 ++ (wsL_act_r11 ++ (wsL_act_r12 ++ wsL_act_r13)))))))))))) ++ wsX60 ++ wsX20 ++ wsX00 ++ wsX10 ++ wsX30 ++ wsX40 ++ (vx_atS RX6 59 "java/lang/IllegalArgumentException" ["java/lang/RuntimeException", "java/lang/Exception"]).filter goodWord ++ (vx_atS RX6 80 "java/lang/IllegalStateException" ["java/lang/RuntimeException", "java/lang/Exception"]).filter goodWord ++ (vx_atS RX6 216 "java/lang/IndexOutOfBoundsException" ["java/lang/RuntimeException", "java/lang/Exception"]).filter goodWord)
def wsL_law0_r1 : List Cond := [Cond.classLink RL 30 RX6, Cond.instantiable RX6 6, Cond.initialized RX6, Cond.arrayClass .int, Cond.constant RL 110 (2147483647), Cond.methodLink RL 102 yX6_init, Cond.instanceMethod yX6_init, Cond.code yX6_init cX6_init 1 none, Cond.methodLink RX6 3 objectInit, Cond.instanceMethod objectInit, Cond.code objectInit ⟨#[0xb1]⟩ 1 none, Cond.classLink RX6 9 RX0, Cond.instantiable RX0 8, Cond.initialized RX0, Cond.fieldLink RX6 12 "TwoFacedTiles" "board" "LTwoFacedTiles$Board;", Cond.classLink RX6 16 RX2, Cond.instantiable RX2 3, Cond.initialized RX2, Cond.fieldLink RX6 19 "TwoFacedTiles" "history" "LTwoFacedTiles$History;", Cond.classLink RX6 23 RX5, Cond.instantiable RX5 2, Cond.initialized RX5, Cond.fieldLink RX6 26 "TwoFacedTiles" "text" "LTwoFacedTiles$Text;", Cond.classLink RX6 30 RX3]
def wsL_law0_r2 : List Cond := [Cond.instantiable RX3 4, Cond.initialized RX3, Cond.fieldLink RX6 33 "TwoFacedTiles" "needs" "LTwoFacedTiles$Needs;", Cond.classLink RX6 37 RX4, Cond.instantiable RX4 7, Cond.initialized RX4, Cond.fieldLink RX6 40 "TwoFacedTiles" "search" "LTwoFacedTiles$Search;", Cond.classLink RX6 44 RX1, Cond.instantiable RX1 3, Cond.initialized RX1, Cond.fieldLink RX6 47 "TwoFacedTiles" "draws" "LTwoFacedTiles$Draws;", Cond.instanceMethod yX0_init, Cond.code yX0_init cX0_init 1 none, Cond.methodLink RX0 3 objectInit, Cond.fieldLink RX0 9 "TwoFacedTiles$Board" "rows" "I", Cond.fieldLink RX0 15 "TwoFacedTiles$Board" "columns" "I", Cond.fieldLink RX0 18 "TwoFacedTiles$Board" "rule" "I", Cond.fieldLink RX0 21 "TwoFacedTiles$Board" "tiles" "I", Cond.fieldLink RX0 24 "TwoFacedTiles$Board" "fixed" "I", Cond.fieldLink RX0 27 "TwoFacedTiles$Board" "placings" "[I", Cond.fieldLink RX0 31 "TwoFacedTiles$Board" "places" "[I", Cond.fieldLink RX0 34 "TwoFacedTiles$Board" "looks" "[I", Cond.methodLink RX6 18 yX2_init, Cond.instanceMethod yX2_init]
def wsL_law0_r3 : List Cond := [Cond.code yX2_init cX2_init 2 none, Cond.methodLink RX2 3 objectInit, Cond.classLink RX2 9 RX0, Cond.fieldLink RX2 11 "TwoFacedTiles$History" "states" "[LTwoFacedTiles$Board;", Cond.fieldLink RX2 17 "TwoFacedTiles$History" "oldest" "I", Cond.fieldLink RX2 21 "TwoFacedTiles$History" "kept" "I", Cond.instanceMethod yX5_init, Cond.code yX5_init cX5_init 1 none, Cond.methodLink RX5 3 objectInit, Cond.fieldLink RX5 9 "TwoFacedTiles$Text" "codes" "[I", Cond.fieldLink RX5 15 "TwoFacedTiles$Text" "length" "I", Cond.instanceMethod yX3_init, Cond.code yX3_init cX3_init 1 none, Cond.methodLink RX3 3 objectInit, Cond.fieldLink RX3 9 "TwoFacedTiles$Needs" "mustBeZero" "I", Cond.fieldLink RX3 15 "TwoFacedTiles$Needs" "mustAgree" "I", Cond.fieldLink RX3 18 "TwoFacedTiles$Needs" "wanted" "I", Cond.fieldLink RX3 21 "TwoFacedTiles$Needs" "forbiddenZero" "Z", Cond.methodLink RX6 39 yX4_init, Cond.instanceMethod yX4_init, Cond.code yX4_init cX4_init 2 none, Cond.methodLink RX4 3 objectInit, Cond.classLink RX4 9 RX0, Cond.fieldLink RX4 12 "TwoFacedTiles$Search" "trial" "LTwoFacedTiles$Board;"]
def wsL_law0_r4 : List Cond := [Cond.fieldLink RX4 18 "TwoFacedTiles$Search" "found" "I", Cond.classLink RX4 22 RX3, Cond.fieldLink RX4 24 "TwoFacedTiles$Search" "needs" "[LTwoFacedTiles$Needs;", Cond.fieldLink RX4 28 "TwoFacedTiles$Search" "most" "I", Cond.fieldLink RX4 31 "TwoFacedTiles$Search" "steps" "I", Cond.fieldLink RX4 34 "TwoFacedTiles$Search" "tooManySteps" "Z", Cond.fieldLink RX4 38 "TwoFacedTiles$Search" "over" "Z", Cond.instanceMethod yX1_init, Cond.code yX1_init cX1_init 1 none, Cond.methodLink RX1 1 objectInit, Cond.fieldLink RX1 7 "TwoFacedTiles$Draws" "seed" "I", Cond.fieldLink RX1 13 "TwoFacedTiles$Draws" "colors" "I", Cond.fieldLink RX1 16 "TwoFacedTiles$Draws" "rest" "I", Cond.methodLink RX6 51 yX0_makeEmpty, Cond.instanceMethod yX0_makeEmpty, Cond.selects RX0 yX0_makeEmpty yX0_makeEmpty, Cond.code yX0_makeEmpty cX0_makeEmpty 4 none, Cond.methodLink RL 103 yL_told, Cond.static yL_told, Cond.initialized RL, Cond.code yL_told cL_told 20 (some .boolean), Cond.methodLink RL 26 yL_why, Cond.static yL_why, Cond.code yL_why cL_why 4 (some .int)]
def wsL_law0_r5 : List Cond := [Cond.methodLink RL 18 yL_where, Cond.static yL_where, Cond.code yL_where cL_where 3 (some .int), Cond.methodLink RL 22 yL_fits, Cond.static yL_fits, Cond.code yL_fits cL_fits 11 (some .int), Cond.methodLink RL 8 yL_color, Cond.static yL_color, Cond.code yL_color cL_color 7 (some .int), Cond.methodLink RL 14 yL_beyond, Cond.static yL_beyond, Cond.code yL_beyond cL_beyond 5 (some .int), Cond.methodLink RL 29 yX6_cell, Cond.instanceMethod yX6_cell, Cond.selects RX6 yX6_cell yX6_cell, Cond.code yX6_cell cX6_cell 3 (some .int), Cond.classLink RX6 55 "java/lang/IllegalArgumentException", Cond.initialized "java/lang/IllegalArgumentException", Cond.methodLink RX6 126 yX6_requireCell, Cond.instanceMethod yX6_requireCell, Cond.selects RX6 yX6_requireCell yX6_requireCell, Cond.code yX6_requireCell cX6_requireCell 2 none, Cond.classLink RX6 212 "java/lang/IndexOutOfBoundsException", Cond.initialized "java/lang/IndexOutOfBoundsException"]
def wsL_law0_r6 : List Cond := [Cond.methodLink RX6 267 yX0_hasCell, Cond.instanceMethod yX0_hasCell, Cond.selects RX0 yX0_hasCell yX0_hasCell, Cond.code yX0_hasCell cX0_hasCell 2 (some .boolean), Cond.methodLink RX0 43 yX0_cells, Cond.instanceMethod yX0_cells, Cond.selects RX0 yX0_cells yX0_cells, Cond.code yX0_cells cX0_cells 1 (some .int), Cond.methodLink RX6 209 yX6_cellProperty, Cond.instanceMethod yX6_cellProperty, Cond.selects RX6 yX6_cellProperty yX6_cellProperty, Cond.code yX6_cellProperty cX6_cellProperty 3 (some .int), Cond.fieldLink RX6 138 "TwoFacedTiles$Board" "placings" "[I", Cond.methodLink RX6 133 yX0_isFixed, Cond.instanceMethod yX0_isFixed, Cond.selects RX0 yX0_isFixed yX0_isFixed, Cond.code yX0_isFixed cX0_isFixed 2 (some .boolean), Cond.methodLink RX6 284 yX6_possibleCount, Cond.instanceMethod yX6_possibleCount, Cond.selects RX6 yX6_possibleCount yX6_possibleCount, Cond.code yX6_possibleCount cX6_possibleCount 4 (some .int), Cond.fieldLink RX6 72 "TwoFacedTiles$Board" "tiles" "I", Cond.methodLink RX6 130 yX0_isEmpty, Cond.instanceMethod yX0_isEmpty]
def wsL_law0_r7 : List Cond := [Cond.selects RX0 yX0_isEmpty yX0_isEmpty, Cond.code yX0_isEmpty cX0_isEmpty 2 (some .boolean), Cond.methodLink RX6 275 yX3_read, Cond.instanceMethod yX3_read, Cond.selects RX3 yX3_read yX3_read, Cond.code yX3_read cX3_read 6 none, Cond.fieldLink RX3 25 "TwoFacedTiles$Board" "rule" "I", Cond.methodLink RX3 30 yX3_ruledColors, Cond.static yX3_ruledColors, Cond.code yX3_ruledColors cX3_ruledColors 1 (some .int), Cond.constant RX3 55 (983055), Cond.methodLink RX3 34 yX0_neighbor, Cond.instanceMethod yX0_neighbor, Cond.selects RX0 yX0_neighbor yX0_neighbor, Cond.code yX0_neighbor cX0_neighbor 4 (some .int), Cond.methodLink RX3 38 yX0_isEmpty, Cond.methodLink RX3 42 yX0_lookIn, Cond.instanceMethod yX0_lookIn, Cond.selects RX0 yX0_lookIn yX0_lookIn, Cond.code yX0_lookIn cX0_lookIn 2 (some .int), Cond.static yX6_opposite, Cond.code yX6_opposite cX6_opposite 1 (some .int), Cond.static yX6_colorsAt, Cond.code yX6_colorsAt cX6_colorsAt 2 (some .int)]
def wsL_law0_r8 : List Cond := [Cond.constant RX6 321 (983055), Cond.methodLink RX3 51 yX3_readNeighbor, Cond.instanceMethod yX3_readNeighbor, Cond.selects RX3 yX3_readNeighbor yX3_readNeighbor, Cond.code yX3_readNeighbor cX3_readNeighbor 4 none, Cond.constant RX3 56 (983040), Cond.methodLink RX6 290 yX6_meetsNeeds, Cond.instanceMethod yX6_meetsNeeds, Cond.selects RX6 yX6_meetsNeeds yX6_meetsNeeds, Cond.code yX6_meetsNeeds cX6_meetsNeeds 2 (some .boolean), Cond.fieldLink RX6 278 "TwoFacedTiles$Board" "looks" "[I", Cond.methodLink RX6 84 yX0_isLaid, Cond.instanceMethod yX0_isLaid, Cond.selects RX0 yX0_isLaid yX0_isLaid, Cond.code yX0_isLaid cX0_isLaid 2 (some .boolean), Cond.methodLink RX6 281 yX3_reasonAgainst, Cond.instanceMethod yX3_reasonAgainst, Cond.selects RX3 yX3_reasonAgainst yX3_reasonAgainst, Cond.code yX3_reasonAgainst cX3_reasonAgainst 3 (some .int), Cond.constant RX3 57 (65535), Cond.methodLink RX6 287 yX6_firstPossible, Cond.instanceMethod yX6_firstPossible, Cond.selects RX6 yX6_firstPossible yX6_firstPossible, Cond.code yX6_firstPossible cX6_firstPossible 3 (some .int)]
def wsL_law0_r9 : List Cond := [Cond.methodLink RL 35 yX6_color, Cond.instanceMethod yX6_color, Cond.selects RX6 yX6_color yX6_color, Cond.code yX6_color cX6_color 4 (some .int), Cond.methodLink RX6 217 yX6_colorAt, Cond.instanceMethod yX6_colorAt, Cond.selects RX6 yX6_colorAt yX6_colorAt, Cond.code yX6_colorAt cX6_colorAt 5 (some .int), Cond.methodLink RX6 293 yX0_lookIn, Cond.methodLink RX6 296 yX6_colorsAt, Cond.methodLink RL 38 yX6_tile, Cond.instanceMethod yX6_tile, Cond.selects RX6 yX6_tile yX6_tile, Cond.code yX6_tile cX6_tile 3 (some .int), Cond.methodLink RX6 223 yX6_tileProperty, Cond.instanceMethod yX6_tileProperty, Cond.selects RX6 yX6_tileProperty yX6_tileProperty, Cond.code yX6_tileProperty cX6_tileProperty 3 (some .int), Cond.fieldLink RX6 302 "TwoFacedTiles$Board" "places" "[I", Cond.methodLink RX6 299 yX0_faceOf, Cond.instanceMethod yX0_faceOf, Cond.selects RX0 yX0_faceOf yX0_faceOf, Cond.code yX0_faceOf cX0_faceOf 6 (some .int), Cond.methodLink RX6 305 yX0_lowestLike]
def wsL_law0_r10 : List Cond := [Cond.instanceMethod yX0_lowestLike, Cond.selects RX0 yX0_lowestLike yX0_lowestLike, Cond.code yX0_lowestLike cX0_lowestLike 4 (some .int), Cond.methodLink RL 41 yL_at, Cond.static yL_at, Cond.code yL_at cL_at 2 (some .int), Cond.methodLink RL 44 yX6_why, Cond.instanceMethod yX6_why, Cond.selects RX6 yX6_why yX6_why, Cond.code yX6_why cX6_why 3 (some .int), Cond.methodLink RX6 111 yX6_requirePlacing, Cond.instanceMethod yX6_requirePlacing, Cond.selects RX6 yX6_requirePlacing yX6_requirePlacing, Cond.code yX6_requirePlacing cX6_requirePlacing 3 none, Cond.methodLink RX6 272 yX0_hasPlacing, Cond.instanceMethod yX0_hasPlacing, Cond.selects RX0 yX0_hasPlacing yX0_hasPlacing, Cond.code yX0_hasPlacing cX0_hasPlacing 2 (some .boolean), Cond.methodLink RX6 114 yX6_reason, Cond.instanceMethod yX6_reason, Cond.selects RX6 yX6_reason yX6_reason, Cond.code yX6_reason cX6_reason 3 (some .int), Cond.methodLink RL 46 yL_search, Cond.static yL_search]
def wsL_law0_r11 : List Cond := [Cond.code yL_search cL_search 10 none, Cond.methodLink RL 50 yX6_layings, Cond.instanceMethod yX6_layings, Cond.selects RX6 yX6_layings yX6_layings, Cond.code yX6_layings cX6_layings 3 (some .int), Cond.methodLink RX6 157 yX4_run, Cond.instanceMethod yX4_run, Cond.selects RX4 yX4_run yX4_run, Cond.code yX4_run cX4_run 3 none, Cond.methodLink RX4 42 yX0_copyFrom, Cond.instanceMethod yX0_copyFrom, Cond.selects RX0 yX0_copyFrom yX0_copyFrom, Cond.code yX0_copyFrom cX0_copyFrom 2 none, Cond.methodLink RX0 37 arraycopyName, Cond.native arraycopyName, Cond.static arraycopyName, Cond.initialized "java/lang/System", Cond.methodLink RX4 46 yX4_runTrial, Cond.instanceMethod yX4_runTrial, Cond.selects RX4 yX4_runTrial yX4_runTrial, Cond.code yX4_runTrial cX4_runTrial 2 none, Cond.methodLink RX4 54 yX4_fillFrom, Cond.instanceMethod yX4_fillFrom, Cond.selects RX4 yX4_fillFrom yX4_fillFrom]
def wsL_law0_r12 : List Cond := [Cond.code yX4_fillFrom cX4_fillFrom 7 none, Cond.fieldLink RX4 69 "TwoFacedTiles$Board" "tiles" "I", Cond.fieldLink RX4 75 "TwoFacedTiles$Board" "looks" "[I", Cond.methodLink RX4 57 yX0_cells, Cond.methodLink RX4 61 yX0_isEmpty, Cond.methodLink RX4 65 yX3_read, Cond.methodLink RX4 72 yX0_isLaid, Cond.methodLink RX4 79 yX3_reasonAgainst, Cond.methodLink RX4 82 yX4_tryPlacing, Cond.instanceMethod yX4_tryPlacing, Cond.selects RX4 yX4_tryPlacing yX4_tryPlacing, Cond.code yX4_tryPlacing cX4_tryPlacing 3 none, Cond.methodLink RX4 86 yX0_put, Cond.instanceMethod yX0_put, Cond.selects RX0 yX0_put yX0_put, Cond.code yX0_put cX0_put 3 none, Cond.methodLink RX4 89 yX0_remove, Cond.instanceMethod yX0_remove, Cond.selects RX0 yX0_remove yX0_remove, Cond.code yX0_remove cX0_remove 2 none, Cond.methodLink RX6 233 yX4_result, Cond.instanceMethod yX4_result, Cond.selects RX4 yX4_result yX4_result, Cond.code yX4_result cX4_result 2 (some .int)]
def wsL_law0_r13 : List Cond := [Cond.methodLink RL 53 yX6_fitting, Cond.instanceMethod yX6_fitting, Cond.selects RX6 yX6_fitting yX6_fitting, Cond.code yX6_fitting cX6_fitting 1 (some .double), Cond.methodLink RX6 248 yX6_fittingPart, Cond.instanceMethod yX6_fittingPart, Cond.selects RX6 yX6_fittingPart yX6_fittingPart, Cond.code yX6_fittingPart cX6_fittingPart 3 (some .double), Cond.constant RX6 311 (983040), Cond.methodLink RX6 308 yX0_pairsAlike, Cond.instanceMethod yX0_pairsAlike, Cond.selects RX0 yX0_pairsAlike yX0_pairsAlike, Cond.code yX0_pairsAlike cX0_pairsAlike 4 (some .int), Cond.methodLink RX0 94 yX0_isAlike, Cond.instanceMethod yX0_isAlike, Cond.selects RX0 yX0_isAlike yX0_isAlike, Cond.code yX0_isAlike cX0_isAlike 7 (some .boolean), Cond.methodLink RX0 80 yX0_neighbor, Cond.methodLink RX0 47 yX0_isEmpty, Cond.methodLink RX0 98 yX0_lookIn, Cond.methodLink RL 57 yX6_hint, Cond.instanceMethod yX6_hint, Cond.selects RX6 yX6_hint yX6_hint, Cond.code yX6_hint cX6_hint 1 (some .int)]
def wsL_law0_r14 : List Cond := [Cond.methodLink RX6 236 yX6_bestStep, Cond.instanceMethod yX6_bestStep, Cond.selects RX6 yX6_bestStep yX6_bestStep, Cond.code yX6_bestStep cX6_bestStep 5 (some .int), Cond.methodLink RX6 66 yX0_cells, Cond.methodLink RL 61 yX6_count, Cond.instanceMethod yX6_count, Cond.selects RX6 yX6_count yX6_count, Cond.code yX6_count cX6_count 2 (some .int), Cond.methodLink RX6 228 yX6_number, Cond.instanceMethod yX6_number, Cond.selects RX6 yX6_number yX6_number, Cond.code yX6_number cX6_number 2 (some .int), Cond.fieldLink RX6 98 "TwoFacedTiles$Board" "rows" "I", Cond.fieldLink RX6 101 "TwoFacedTiles$Board" "columns" "I", Cond.fieldLink RX6 147 "TwoFacedTiles$Board" "fixed" "I", Cond.fieldLink RX6 92 "TwoFacedTiles$Board" "rule" "I", Cond.fieldLink RX6 199 "TwoFacedTiles$History" "kept" "I", Cond.methodLink RX6 123 yX0_emptyCells, Cond.instanceMethod yX0_emptyCells, Cond.selects RX0 yX0_emptyCells yX0_emptyCells, Cond.code yX0_emptyCells cX0_emptyCells 3 (some .int), Cond.methodLink RX6 239 yJ6_bitCount_0f7a4, Cond.static yJ6_bitCount_0f7a4]
def wsL_law0_r15 : List Cond := [Cond.initialized RJ6, Cond.code yJ6_bitCount_0f7a4 cJ6_bitCount_0f7a4 1 (some .int), Cond.constant RJ6 265 (1431655765), Cond.constant RJ6 266 (858993459), Cond.constant RJ6 267 (252645135), Cond.methodLink RX6 312 yX6_misfits, Cond.instanceMethod yX6_misfits, Cond.selects RX6 yX6_misfits yX6_misfits, Cond.code yX6_misfits cX6_misfits 3 (some .int), Cond.methodLink RL 107 yL_cell, Cond.static yL_cell, Cond.code yL_cell cL_cell 2 (some .int), Cond.constant RL 7 (1540483477), Cond.methodLink RL 111 yL_act, Cond.static yL_act, Cond.code yL_act cL_act 13 (some .boolean), Cond.constant RL 68 (99999999), Cond.methodLink RL 65 yX6_begin, Cond.instanceMethod yX6_begin, Cond.selects RX6 yX6_begin yX6_begin, Cond.code yX6_begin cX6_begin 3 (some .int), Cond.methodLink RX6 62 yX2_save, Cond.instanceMethod yX2_save, Cond.selects RX2 yX2_save yX2_save]
def wsL_law0_r16 : List Cond := [Cond.code yX2_save cX2_save 2 none, Cond.methodLink RX2 25 yX0_copyFrom, Cond.methodLink RL 69 yL_cut, Cond.static yL_cut, Cond.code yL_cut cL_cut 11 none, Cond.methodLink RL 73 yX6_cut, Cond.instanceMethod yX6_cut, Cond.selects RX6 yX6_cut yX6_cut, Cond.code yX6_cut cX6_cut 3 (some .int), Cond.constant RX6 95 (999999999), Cond.methodLink RX6 104 yX1_start, Cond.instanceMethod yX1_start, Cond.selects RX1 yX1_start yX1_start, Cond.code yX1_start cX1_start 3 none, Cond.methodLink RX6 107 yX0_cutTiles, Cond.instanceMethod yX0_cutTiles, Cond.selects RX0 yX0_cutTiles yX0_cutTiles, Cond.code yX0_cutTiles cX0_cutTiles 3 none, Cond.methodLink RX0 76 yX0_cutSide, Cond.instanceMethod yX0_cutSide, Cond.selects RX0 yX0_cutSide yX0_cutSide, Cond.code yX0_cutSide cX0_cutSide 8 none, Cond.methodLink RX0 83 yX1_next, Cond.instanceMethod yX1_next]
def wsL_law0_r17 : List Cond := [Cond.selects RX1 yX1_next yX1_next, Cond.code yX1_next cX1_next 2 (some .int), Cond.methodLink RX0 67 yX0_makeWays, Cond.instanceMethod yX0_makeWays, Cond.selects RX0 yX0_makeWays yX0_makeWays, Cond.code yX0_makeWays cX0_makeWays 4 none, Cond.static yX6_turnedOver, Cond.code yX6_turnedOver cX6_turnedOver 5 (some .int), Cond.methodLink RX6 322 yX6_seenFromBehind, Cond.static yX6_seenFromBehind, Cond.code yX6_seenFromBehind cX6_seenFromBehind 1 (some .int), Cond.static yX6_turned, Cond.code yX6_turned cX6_turned 3 (some .int), Cond.methodLink RL 75 yX6_lay, Cond.instanceMethod yX6_lay, Cond.selects RX6 yX6_lay yX6_lay, Cond.code yX6_lay cX6_lay 3 (some .int), Cond.classLink RX6 76 "java/lang/IllegalStateException", Cond.initialized "java/lang/IllegalStateException", Cond.methodLink RX6 120 yX0_put, Cond.methodLink RL 78 yX6_take, Cond.instanceMethod yX6_take, Cond.selects RX6 yX6_take yX6_take, Cond.code yX6_take cX6_take 3 (some .int)]
def wsL_law0_r18 : List Cond := [Cond.methodLink RX6 142 yX0_remove, Cond.methodLink RL 81 yX6_fix, Cond.instanceMethod yX6_fix, Cond.selects RX6 yX6_fix yX6_fix, Cond.code yX6_fix cX6_fix 2 (some .int), Cond.methodLink RL 84 yX6_setRule, Cond.instanceMethod yX6_setRule, Cond.selects RX6 yX6_setRule yX6_setRule, Cond.code yX6_setRule cX6_setRule 3 (some .int), Cond.methodLink RL 87 yX6_clear, Cond.instanceMethod yX6_clear, Cond.selects RX6 yX6_clear yX6_clear, Cond.code yX6_clear cX6_clear 1 (some .int), Cond.methodLink RX6 150 yX0_removeAllBut, Cond.instanceMethod yX0_removeAllBut, Cond.selects RX0 yX0_removeAllBut yX0_removeAllBut, Cond.code yX0_removeAllBut cX0_removeAllBut 4 (some .int), Cond.methodLink RX0 51 yX0_remove, Cond.methodLink RL 90 yX6_turnOver, Cond.instanceMethod yX6_turnOver, Cond.selects RX6 yX6_turnOver yX6_turnOver, Cond.code yX6_turnOver cX6_turnOver 1 (some .int), Cond.methodLink RX6 154 yX0_mirror, Cond.instanceMethod yX0_mirror]
def wsL_law0_r19 : List Cond := [Cond.selects RX0 yX0_mirror yX0_mirror, Cond.code yX0_mirror cX0_mirror 6 none, Cond.methodLink RX0 55 yX0_swapTurnedOver, Cond.instanceMethod yX0_swapTurnedOver, Cond.selects RX0 yX0_swapTurnedOver yX0_swapTurnedOver, Cond.code yX0_swapTurnedOver cX0_swapTurnedOver 4 none, Cond.static yX6_placingTurnedOver, Cond.code yX6_placingTurnedOver cX6_placingTurnedOver 4 (some .int), Cond.methodLink RL 93 yX6_addTile, Cond.instanceMethod yX6_addTile, Cond.selects RX6 yX6_addTile yX6_addTile, Cond.code yX6_addTile cX6_addTile 3 (some .int), Cond.methodLink RX6 81 yX0_addFaces, Cond.instanceMethod yX0_addFaces, Cond.selects RX0 yX0_addFaces yX0_addFaces, Cond.code yX0_addFaces cX0_addFaces 3 none, Cond.static yX6_lookOfFaces, Cond.code yX6_lookOfFaces cX6_lookOfFaces 6 (some .int), Cond.methodLink RX6 325 yX6_digit, Cond.static yX6_digit, Cond.code yX6_digit cX6_digit 4 (some .int), Cond.methodLink RL 96 yX6_dropTile, Cond.instanceMethod yX6_dropTile, Cond.selects RX6 yX6_dropTile yX6_dropTile]
def wsL_law0_r20 : List Cond := [Cond.code yX6_dropTile cX6_dropTile 1 (some .int), Cond.methodLink RL 99 yX6_solve, Cond.instanceMethod yX6_solve, Cond.selects RX6 yX6_solve yX6_solve, Cond.code yX6_solve cX6_solve 2 (some .int), Cond.fieldLink RX6 161 "TwoFacedTiles$Search" "found" "I", Cond.fieldLink RX6 166 "TwoFacedTiles$Search" "trial" "LTwoFacedTiles$Board;", Cond.methodLink RX6 169 yX0_copyFrom, Cond.methodLink RL 115 yX6_undo, Cond.instanceMethod yX6_undo, Cond.selects RX6 yX6_undo yX6_undo, Cond.code yX6_undo cX6_undo 1 (some .int), Cond.methodLink RX6 204 yX2_restore, Cond.instanceMethod yX2_restore, Cond.selects RX2 yX2_restore yX2_restore, Cond.code yX2_restore cX2_restore 2 none]
def wsL_law0 : List Cond := (wsL_law0_r1 ++ (wsL_law0_r2 ++ (wsL_law0_r3 ++ (wsL_law0_r4 ++ (wsL_law0_r5 ++ (wsL_law0_r6 ++ (wsL_law0_r7 ++ (wsL_law0_r8 ++ (wsL_law0_r9 ++ (wsL_law0_r10 ++ (wsL_law0_r11 ++ (wsL_law0_r12 ++ (wsL_law0_r13 ++ (wsL_law0_r14 ++ (wsL_law0_r15 ++ (wsL_law0_r16 ++ (wsL_law0_r17 ++ (wsL_law0_r18 ++ (wsL_law0_r19 ++ wsL_law0_r20))))))))))))))))))) ++ wsX60 ++ wsX00 ++ wsX20 ++ wsX50 ++ wsX30 ++ wsX40 ++ wsX10 ++ ([] : List Cond)
def wsL_law : List Cond := wsL_law0 ++ (vx_atS RX6 59 "java/lang/IllegalArgumentException" ["java/lang/RuntimeException", "java/lang/Exception"]).filter goodWord ++ (vx_atS RX6 216 "java/lang/IndexOutOfBoundsException" ["java/lang/RuntimeException", "java/lang/Exception"]).filter goodWord ++ (vx_atS RX6 80 "java/lang/IllegalStateException" ["java/lang/RuntimeException", "java/lang/Exception"]).filter goodWord
theorem dX0_init_0 : decode cX0_init 0 = .ok (.aload_n 0, 1) := by decide +kernel
theorem dX0_init_1 : decode cX0_init 1 = .ok (.invokespecial 3, 3) := by decide +kernel
theorem dX0_init_4 : decode cX0_init 4 = .ok (.aload_n 0, 1) := by decide +kernel
theorem dX0_init_5 : decode cX0_init 5 = .ok (.iconst 1, 1) := by decide +kernel
theorem dX0_init_6 : decode cX0_init 6 = .ok (.putfield 9, 3) := by decide +kernel
theorem dX0_init_9 : decode cX0_init 9 = .ok (.aload_n 0, 1) := by decide +kernel
theorem dX0_init_10 : decode cX0_init 10 = .ok (.iconst 1, 1) := by decide +kernel
theorem dX0_init_11 : decode cX0_init 11 = .ok (.putfield 15, 3) := by decide +kernel
theorem dX0_init_14 : decode cX0_init 14 = .ok (.aload_n 0, 1) := by decide +kernel
theorem dX0_init_15 : decode cX0_init 15 = .ok (.iconst 0, 1) := by decide +kernel
theorem dX0_init_16 : decode cX0_init 16 = .ok (.putfield 18, 3) := by decide +kernel
theorem dX0_init_19 : decode cX0_init 19 = .ok (.aload_n 0, 1) := by decide +kernel
theorem dX0_init_20 : decode cX0_init 20 = .ok (.iconst 0, 1) := by decide +kernel
theorem dX0_init_21 : decode cX0_init 21 = .ok (.putfield 21, 3) := by decide +kernel
theorem dX0_init_24 : decode cX0_init 24 = .ok (.aload_n 0, 1) := by decide +kernel
theorem dX0_init_25 : decode cX0_init 25 = .ok (.iconst 0, 1) := by decide +kernel
theorem dX0_init_26 : decode cX0_init 26 = .ok (.putfield 24, 3) := by decide +kernel
theorem dX0_init_29 : decode cX0_init 29 = .ok (.aload_n 0, 1) := by decide +kernel
theorem dX0_init_30 : decode cX0_init 30 = .ok (.bipush 12, 2) := by decide +kernel
theorem dX0_init_32 : decode cX0_init 32 = .ok (.newarray .int, 2) := by decide +kernel
theorem dX0_init_34 : decode cX0_init 34 = .ok (.putfield 27, 3) := by decide +kernel
theorem dX0_init_37 : decode cX0_init 37 = .ok (.aload_n 0, 1) := by decide +kernel
theorem dX0_init_38 : decode cX0_init 38 = .ok (.bipush 12, 2) := by decide +kernel
theorem dX0_init_40 : decode cX0_init 40 = .ok (.newarray .int, 2) := by decide +kernel
theorem dX0_init_42 : decode cX0_init 42 = .ok (.putfield 31, 3) := by decide +kernel
theorem dX0_init_45 : decode cX0_init 45 = .ok (.aload_n 0, 1) := by decide +kernel
theorem dX0_init_46 : decode cX0_init 46 = .ok (.bipush 96, 2) := by decide +kernel
theorem dX0_init_48 : decode cX0_init 48 = .ok (.newarray .int, 2) := by decide +kernel
theorem dX0_init_50 : decode cX0_init 50 = .ok (.putfield 34, 3) := by decide +kernel
theorem dX0_init_53 : decode cX0_init 53 = .ok (.return_, 1) := by decide +kernel
theorem dX0_copyFrom_0 : decode cX0_copyFrom 0 = .ok (.aload_n 0, 1) := by decide +kernel
theorem dX0_copyFrom_1 : decode cX0_copyFrom 1 = .ok (.aload_n 1, 1) := by decide +kernel
theorem dX0_copyFrom_2 : decode cX0_copyFrom 2 = .ok (.getfield 9, 3) := by decide +kernel
theorem dX0_copyFrom_5 : decode cX0_copyFrom 5 = .ok (.putfield 9, 3) := by decide +kernel
theorem dX0_copyFrom_8 : decode cX0_copyFrom 8 = .ok (.aload_n 0, 1) := by decide +kernel
theorem dX0_copyFrom_9 : decode cX0_copyFrom 9 = .ok (.aload_n 1, 1) := by decide +kernel
theorem dX0_copyFrom_10 : decode cX0_copyFrom 10 = .ok (.getfield 15, 3) := by decide +kernel
theorem dX0_copyFrom_13 : decode cX0_copyFrom 13 = .ok (.putfield 15, 3) := by decide +kernel
theorem dX0_copyFrom_16 : decode cX0_copyFrom 16 = .ok (.aload_n 0, 1) := by decide +kernel
theorem dX0_copyFrom_17 : decode cX0_copyFrom 17 = .ok (.aload_n 1, 1) := by decide +kernel
theorem dX0_copyFrom_18 : decode cX0_copyFrom 18 = .ok (.getfield 18, 3) := by decide +kernel
theorem dX0_copyFrom_21 : decode cX0_copyFrom 21 = .ok (.putfield 18, 3) := by decide +kernel
theorem dX0_copyFrom_24 : decode cX0_copyFrom 24 = .ok (.aload_n 0, 1) := by decide +kernel
theorem dX0_copyFrom_25 : decode cX0_copyFrom 25 = .ok (.aload_n 1, 1) := by decide +kernel
theorem dX0_copyFrom_26 : decode cX0_copyFrom 26 = .ok (.getfield 21, 3) := by decide +kernel
theorem dX0_copyFrom_29 : decode cX0_copyFrom 29 = .ok (.putfield 21, 3) := by decide +kernel
theorem dX0_copyFrom_32 : decode cX0_copyFrom 32 = .ok (.aload_n 0, 1) := by decide +kernel
theorem dX0_copyFrom_33 : decode cX0_copyFrom 33 = .ok (.aload_n 1, 1) := by decide +kernel
theorem dX0_copyFrom_34 : decode cX0_copyFrom 34 = .ok (.getfield 24, 3) := by decide +kernel
theorem dX0_copyFrom_37 : decode cX0_copyFrom 37 = .ok (.putfield 24, 3) := by decide +kernel
theorem dX0_copyFrom_40 : decode cX0_copyFrom 40 = .ok (.aload_n 1, 1) := by decide +kernel
theorem dX0_copyFrom_41 : decode cX0_copyFrom 41 = .ok (.getfield 27, 3) := by decide +kernel
theorem dX0_copyFrom_44 : decode cX0_copyFrom 44 = .ok (.iconst 0, 1) := by decide +kernel
theorem dX0_copyFrom_45 : decode cX0_copyFrom 45 = .ok (.aload_n 0, 1) := by decide +kernel
theorem dX0_copyFrom_46 : decode cX0_copyFrom 46 = .ok (.getfield 27, 3) := by decide +kernel
theorem dX0_copyFrom_49 : decode cX0_copyFrom 49 = .ok (.iconst 0, 1) := by decide +kernel
theorem dX0_copyFrom_50 : decode cX0_copyFrom 50 = .ok (.bipush 12, 2) := by decide +kernel
theorem dX0_copyFrom_52 : decode cX0_copyFrom 52 = .ok (.invokestatic 37, 3) := by decide +kernel
theorem dX0_copyFrom_55 : decode cX0_copyFrom 55 = .ok (.aload_n 1, 1) := by decide +kernel
theorem dX0_copyFrom_56 : decode cX0_copyFrom 56 = .ok (.getfield 31, 3) := by decide +kernel
theorem dX0_copyFrom_59 : decode cX0_copyFrom 59 = .ok (.iconst 0, 1) := by decide +kernel
theorem dX0_copyFrom_60 : decode cX0_copyFrom 60 = .ok (.aload_n 0, 1) := by decide +kernel
theorem dX0_copyFrom_61 : decode cX0_copyFrom 61 = .ok (.getfield 31, 3) := by decide +kernel
theorem dX0_copyFrom_64 : decode cX0_copyFrom 64 = .ok (.iconst 0, 1) := by decide +kernel
theorem dX0_copyFrom_65 : decode cX0_copyFrom 65 = .ok (.bipush 12, 2) := by decide +kernel
theorem dX0_copyFrom_67 : decode cX0_copyFrom 67 = .ok (.invokestatic 37, 3) := by decide +kernel
theorem dX0_copyFrom_70 : decode cX0_copyFrom 70 = .ok (.aload_n 1, 1) := by decide +kernel
theorem dX0_copyFrom_71 : decode cX0_copyFrom 71 = .ok (.getfield 34, 3) := by decide +kernel
theorem dX0_copyFrom_74 : decode cX0_copyFrom 74 = .ok (.iconst 0, 1) := by decide +kernel
theorem dX0_copyFrom_75 : decode cX0_copyFrom 75 = .ok (.aload_n 0, 1) := by decide +kernel
theorem dX0_copyFrom_76 : decode cX0_copyFrom 76 = .ok (.getfield 34, 3) := by decide +kernel
theorem dX0_copyFrom_79 : decode cX0_copyFrom 79 = .ok (.iconst 0, 1) := by decide +kernel
theorem dX0_copyFrom_80 : decode cX0_copyFrom 80 = .ok (.bipush 96, 2) := by decide +kernel
theorem dX0_copyFrom_82 : decode cX0_copyFrom 82 = .ok (.invokestatic 37, 3) := by decide +kernel
theorem dX0_copyFrom_85 : decode cX0_copyFrom 85 = .ok (.return_, 1) := by decide +kernel
theorem dX0_makeEmpty_0 : decode cX0_makeEmpty 0 = .ok (.aload_n 0, 1) := by decide +kernel
theorem dX0_makeEmpty_1 : decode cX0_makeEmpty 1 = .ok (.iload_n 1, 1) := by decide +kernel
theorem dX0_makeEmpty_2 : decode cX0_makeEmpty 2 = .ok (.putfield 9, 3) := by decide +kernel
theorem dX0_makeEmpty_5 : decode cX0_makeEmpty 5 = .ok (.aload_n 0, 1) := by decide +kernel
theorem dX0_makeEmpty_6 : decode cX0_makeEmpty 6 = .ok (.iload_n 2, 1) := by decide +kernel
theorem dX0_makeEmpty_7 : decode cX0_makeEmpty 7 = .ok (.putfield 15, 3) := by decide +kernel
theorem dX0_makeEmpty_10 : decode cX0_makeEmpty 10 = .ok (.aload_n 0, 1) := by decide +kernel
theorem dX0_makeEmpty_11 : decode cX0_makeEmpty 11 = .ok (.iconst 0, 1) := by decide +kernel
theorem dX0_makeEmpty_12 : decode cX0_makeEmpty 12 = .ok (.putfield 24, 3) := by decide +kernel
theorem dX0_makeEmpty_15 : decode cX0_makeEmpty 15 = .ok (.iconst 0, 1) := by decide +kernel
theorem dX0_makeEmpty_16 : decode cX0_makeEmpty 16 = .ok (.istore_n 3, 1) := by decide +kernel
theorem dX0_makeEmpty_17 : decode cX0_makeEmpty 17 = .ok (.iload_n 3, 1) := by decide +kernel
theorem dX0_makeEmpty_18 : decode cX0_makeEmpty 18 = .ok (.bipush 12, 2) := by decide +kernel
theorem dX0_makeEmpty_20 : decode cX0_makeEmpty 20 = .ok (.if_icmp .ge 16, 3) := by decide +kernel
theorem dX0_makeEmpty_23 : decode cX0_makeEmpty 23 = .ok (.aload_n 0, 1) := by decide +kernel
theorem dX0_makeEmpty_24 : decode cX0_makeEmpty 24 = .ok (.getfield 27, 3) := by decide +kernel
theorem dX0_makeEmpty_27 : decode cX0_makeEmpty 27 = .ok (.iload_n 3, 1) := by decide +kernel
theorem dX0_makeEmpty_28 : decode cX0_makeEmpty 28 = .ok (.iconst (-1), 1) := by decide +kernel
theorem dX0_makeEmpty_29 : decode cX0_makeEmpty 29 = .ok (.iastore, 1) := by decide +kernel
theorem dX0_makeEmpty_30 : decode cX0_makeEmpty 30 = .ok (.iinc 3 1, 3) := by decide +kernel
theorem dX0_makeEmpty_33 : decode cX0_makeEmpty 33 = .ok (.goto (-16), 3) := by decide +kernel
theorem dX0_makeEmpty_36 : decode cX0_makeEmpty 36 = .ok (.iconst 0, 1) := by decide +kernel
theorem dX0_makeEmpty_37 : decode cX0_makeEmpty 37 = .ok (.istore_n 3, 1) := by decide +kernel
theorem dX0_makeEmpty_38 : decode cX0_makeEmpty 38 = .ok (.iload_n 3, 1) := by decide +kernel
theorem dX0_makeEmpty_39 : decode cX0_makeEmpty 39 = .ok (.bipush 12, 2) := by decide +kernel
theorem dX0_makeEmpty_41 : decode cX0_makeEmpty 41 = .ok (.if_icmp .ge 16, 3) := by decide +kernel
theorem dX0_makeEmpty_44 : decode cX0_makeEmpty 44 = .ok (.aload_n 0, 1) := by decide +kernel
theorem dX0_makeEmpty_45 : decode cX0_makeEmpty 45 = .ok (.getfield 31, 3) := by decide +kernel
theorem dX0_makeEmpty_48 : decode cX0_makeEmpty 48 = .ok (.iload_n 3, 1) := by decide +kernel
theorem dX0_makeEmpty_49 : decode cX0_makeEmpty 49 = .ok (.iconst (-1), 1) := by decide +kernel
theorem dX0_makeEmpty_50 : decode cX0_makeEmpty 50 = .ok (.iastore, 1) := by decide +kernel
theorem dX0_makeEmpty_51 : decode cX0_makeEmpty 51 = .ok (.iinc 3 1, 3) := by decide +kernel
theorem dX0_makeEmpty_54 : decode cX0_makeEmpty 54 = .ok (.goto (-16), 3) := by decide +kernel
theorem dX0_makeEmpty_57 : decode cX0_makeEmpty 57 = .ok (.return_, 1) := by decide +kernel
theorem dX0_cells_0 : decode cX0_cells 0 = .ok (.aload_n 0, 1) := by decide +kernel
theorem dX0_cells_1 : decode cX0_cells 1 = .ok (.getfield 9, 3) := by decide +kernel
theorem dX0_cells_4 : decode cX0_cells 4 = .ok (.aload_n 0, 1) := by decide +kernel
theorem dX0_cells_5 : decode cX0_cells 5 = .ok (.getfield 15, 3) := by decide +kernel
theorem dX0_cells_8 : decode cX0_cells 8 = .ok (.imul, 1) := by decide +kernel
theorem dX0_cells_9 : decode cX0_cells 9 = .ok (.ireturn, 1) := by decide +kernel
set_option maxRecDepth 20000 in
theorem ggX0_hasCell_X0_cells : GoodIn wsX0_hasCell wsX0_cells := goodIn_r _ [5, 6, 7, 8, 9, 10, 11, 12, 13, 14, 15] (by decide +kernel) (by decide +kernel)
set_option maxRecDepth 20000 in
theorem gX0_hasCell_X0_cells : GoodIn wsX0_hasCell (wsV RX0 43 RX0 yX0_cells wsX0_cells) := goodIn_app (goodIn_of _ (by decide +kernel)) ggX0_hasCell_X0_cells
theorem dX0_hasCell_0 : decode cX0_hasCell 0 = .ok (.iload_n 1, 1) := by decide +kernel
theorem dX0_hasCell_1 : decode cX0_hasCell 1 = .ok (.ifCond .lt 15, 3) := by decide +kernel
theorem dX0_hasCell_4 : decode cX0_hasCell 4 = .ok (.iload_n 1, 1) := by decide +kernel
theorem dX0_hasCell_5 : decode cX0_hasCell 5 = .ok (.aload_n 0, 1) := by decide +kernel
theorem dX0_hasCell_6 : decode cX0_hasCell 6 = .ok (.invokevirtual 43, 3) := by decide +kernel
theorem dX0_hasCell_9 : decode cX0_hasCell 9 = .ok (.if_icmp .ge 7, 3) := by decide +kernel
theorem dX0_hasCell_12 : decode cX0_hasCell 12 = .ok (.iconst 1, 1) := by decide +kernel
theorem dX0_hasCell_13 : decode cX0_hasCell 13 = .ok (.goto 4, 3) := by decide +kernel
theorem dX0_hasCell_16 : decode cX0_hasCell 16 = .ok (.iconst 0, 1) := by decide +kernel
theorem dX0_hasCell_17 : decode cX0_hasCell 17 = .ok (.ireturn, 1) := by decide +kernel
theorem dX0_hasPlacing_0 : decode cX0_hasPlacing 0 = .ok (.iload_n 1, 1) := by decide +kernel
theorem dX0_hasPlacing_1 : decode cX0_hasPlacing 1 = .ok (.ifCond .lt 18, 3) := by decide +kernel
theorem dX0_hasPlacing_4 : decode cX0_hasPlacing 4 = .ok (.iload_n 1, 1) := by decide +kernel
theorem dX0_hasPlacing_5 : decode cX0_hasPlacing 5 = .ok (.bipush 8, 2) := by decide +kernel
theorem dX0_hasPlacing_7 : decode cX0_hasPlacing 7 = .ok (.aload_n 0, 1) := by decide +kernel
theorem dX0_hasPlacing_8 : decode cX0_hasPlacing 8 = .ok (.getfield 21, 3) := by decide +kernel
theorem dX0_hasPlacing_11 : decode cX0_hasPlacing 11 = .ok (.imul, 1) := by decide +kernel
theorem dX0_hasPlacing_12 : decode cX0_hasPlacing 12 = .ok (.if_icmp .ge 7, 3) := by decide +kernel
theorem dX0_hasPlacing_15 : decode cX0_hasPlacing 15 = .ok (.iconst 1, 1) := by decide +kernel
theorem dX0_hasPlacing_16 : decode cX0_hasPlacing 16 = .ok (.goto 4, 3) := by decide +kernel
theorem dX0_hasPlacing_19 : decode cX0_hasPlacing 19 = .ok (.iconst 0, 1) := by decide +kernel
theorem dX0_hasPlacing_20 : decode cX0_hasPlacing 20 = .ok (.ireturn, 1) := by decide +kernel
theorem dX0_isEmpty_0 : decode cX0_isEmpty 0 = .ok (.aload_n 0, 1) := by decide +kernel
theorem dX0_isEmpty_1 : decode cX0_isEmpty 1 = .ok (.getfield 27, 3) := by decide +kernel
theorem dX0_isEmpty_4 : decode cX0_isEmpty 4 = .ok (.iload_n 1, 1) := by decide +kernel
theorem dX0_isEmpty_5 : decode cX0_isEmpty 5 = .ok (.iaload, 1) := by decide +kernel
theorem dX0_isEmpty_6 : decode cX0_isEmpty 6 = .ok (.iconst (-1), 1) := by decide +kernel
theorem dX0_isEmpty_7 : decode cX0_isEmpty 7 = .ok (.if_icmp .ne 7, 3) := by decide +kernel
theorem dX0_isEmpty_10 : decode cX0_isEmpty 10 = .ok (.iconst 1, 1) := by decide +kernel
theorem dX0_isEmpty_11 : decode cX0_isEmpty 11 = .ok (.goto 4, 3) := by decide +kernel
theorem dX0_isEmpty_14 : decode cX0_isEmpty 14 = .ok (.iconst 0, 1) := by decide +kernel
theorem dX0_isEmpty_15 : decode cX0_isEmpty 15 = .ok (.ireturn, 1) := by decide +kernel
theorem dX0_isFixed_0 : decode cX0_isFixed 0 = .ok (.aload_n 0, 1) := by decide +kernel
theorem dX0_isFixed_1 : decode cX0_isFixed 1 = .ok (.getfield 24, 3) := by decide +kernel
theorem dX0_isFixed_4 : decode cX0_isFixed 4 = .ok (.iload_n 1, 1) := by decide +kernel
theorem dX0_isFixed_5 : decode cX0_isFixed 5 = .ok (.ishr, 1) := by decide +kernel
theorem dX0_isFixed_6 : decode cX0_isFixed 6 = .ok (.iconst 1, 1) := by decide +kernel
theorem dX0_isFixed_7 : decode cX0_isFixed 7 = .ok (.iand, 1) := by decide +kernel
theorem dX0_isFixed_8 : decode cX0_isFixed 8 = .ok (.iconst 1, 1) := by decide +kernel
theorem dX0_isFixed_9 : decode cX0_isFixed 9 = .ok (.if_icmp .ne 7, 3) := by decide +kernel
theorem dX0_isFixed_12 : decode cX0_isFixed 12 = .ok (.iconst 1, 1) := by decide +kernel
theorem dX0_isFixed_13 : decode cX0_isFixed 13 = .ok (.goto 4, 3) := by decide +kernel
theorem dX0_isFixed_16 : decode cX0_isFixed 16 = .ok (.iconst 0, 1) := by decide +kernel
theorem dX0_isFixed_17 : decode cX0_isFixed 17 = .ok (.ireturn, 1) := by decide +kernel
theorem dX0_isLaid_0 : decode cX0_isLaid 0 = .ok (.aload_n 0, 1) := by decide +kernel
theorem dX0_isLaid_1 : decode cX0_isLaid 1 = .ok (.getfield 31, 3) := by decide +kernel
theorem dX0_isLaid_4 : decode cX0_isLaid 4 = .ok (.iload_n 1, 1) := by decide +kernel
theorem dX0_isLaid_5 : decode cX0_isLaid 5 = .ok (.iaload, 1) := by decide +kernel
theorem dX0_isLaid_6 : decode cX0_isLaid 6 = .ok (.iconst (-1), 1) := by decide +kernel
theorem dX0_isLaid_7 : decode cX0_isLaid 7 = .ok (.if_icmp .eq 7, 3) := by decide +kernel
theorem dX0_isLaid_10 : decode cX0_isLaid 10 = .ok (.iconst 1, 1) := by decide +kernel
theorem dX0_isLaid_11 : decode cX0_isLaid 11 = .ok (.goto 4, 3) := by decide +kernel
theorem dX0_isLaid_14 : decode cX0_isLaid 14 = .ok (.iconst 0, 1) := by decide +kernel
theorem dX0_isLaid_15 : decode cX0_isLaid 15 = .ok (.ireturn, 1) := by decide +kernel
theorem dX0_lookIn_0 : decode cX0_lookIn 0 = .ok (.aload_n 0, 1) := by decide +kernel
theorem dX0_lookIn_1 : decode cX0_lookIn 1 = .ok (.getfield 34, 3) := by decide +kernel
theorem dX0_lookIn_4 : decode cX0_lookIn 4 = .ok (.aload_n 0, 1) := by decide +kernel
theorem dX0_lookIn_5 : decode cX0_lookIn 5 = .ok (.getfield 27, 3) := by decide +kernel
theorem dX0_lookIn_8 : decode cX0_lookIn 8 = .ok (.iload_n 1, 1) := by decide +kernel
theorem dX0_lookIn_9 : decode cX0_lookIn 9 = .ok (.iaload, 1) := by decide +kernel
theorem dX0_lookIn_10 : decode cX0_lookIn 10 = .ok (.iaload, 1) := by decide +kernel
theorem dX0_lookIn_11 : decode cX0_lookIn 11 = .ok (.ireturn, 1) := by decide +kernel
set_option maxRecDepth 20000 in
theorem ggX0_emptyCells_X0_cells : GoodIn wsX0_emptyCells wsX0_cells := goodIn_r _ [5, 6, 7, 13, 14, 15, 16, 17, 18, 19, 20] (by decide +kernel) (by decide +kernel)
set_option maxRecDepth 20000 in
theorem gX0_emptyCells_X0_cells : GoodIn wsX0_emptyCells (wsV RX0 43 RX0 yX0_cells wsX0_cells) := goodIn_app (goodIn_of _ (by decide +kernel)) ggX0_emptyCells_X0_cells
set_option maxRecDepth 20000 in
theorem ggX0_emptyCells_X0_isEmpty : GoodIn wsX0_emptyCells wsX0_isEmpty := goodIn_r _ [11, 12, 13, 14, 15, 16, 17, 18, 19, 20] (by decide +kernel) (by decide +kernel)
set_option maxRecDepth 20000 in
theorem gX0_emptyCells_X0_isEmpty : GoodIn wsX0_emptyCells (wsV RX0 47 RX0 yX0_isEmpty wsX0_isEmpty) := goodIn_app (goodIn_of _ (by decide +kernel)) ggX0_emptyCells_X0_isEmpty
theorem dX0_emptyCells_0 : decode cX0_emptyCells 0 = .ok (.iconst 0, 1) := by decide +kernel
theorem dX0_emptyCells_1 : decode cX0_emptyCells 1 = .ok (.istore_n 1, 1) := by decide +kernel
theorem dX0_emptyCells_2 : decode cX0_emptyCells 2 = .ok (.iconst 0, 1) := by decide +kernel
theorem dX0_emptyCells_3 : decode cX0_emptyCells 3 = .ok (.istore_n 2, 1) := by decide +kernel
theorem dX0_emptyCells_4 : decode cX0_emptyCells 4 = .ok (.iload_n 2, 1) := by decide +kernel
theorem dX0_emptyCells_5 : decode cX0_emptyCells 5 = .ok (.aload_n 0, 1) := by decide +kernel
theorem dX0_emptyCells_6 : decode cX0_emptyCells 6 = .ok (.invokevirtual 43, 3) := by decide +kernel
theorem dX0_emptyCells_9 : decode cX0_emptyCells 9 = .ok (.if_icmp .ge 20, 3) := by decide +kernel
theorem dX0_emptyCells_12 : decode cX0_emptyCells 12 = .ok (.aload_n 0, 1) := by decide +kernel
theorem dX0_emptyCells_13 : decode cX0_emptyCells 13 = .ok (.iload_n 2, 1) := by decide +kernel
theorem dX0_emptyCells_14 : decode cX0_emptyCells 14 = .ok (.invokevirtual 47, 3) := by decide +kernel
theorem dX0_emptyCells_17 : decode cX0_emptyCells 17 = .ok (.ifCond .eq 6, 3) := by decide +kernel
theorem dX0_emptyCells_20 : decode cX0_emptyCells 20 = .ok (.iinc 1 1, 3) := by decide +kernel
theorem dX0_emptyCells_23 : decode cX0_emptyCells 23 = .ok (.iinc 2 1, 3) := by decide +kernel
theorem dX0_emptyCells_26 : decode cX0_emptyCells 26 = .ok (.goto (-22), 3) := by decide +kernel
theorem dX0_emptyCells_29 : decode cX0_emptyCells 29 = .ok (.iload_n 1, 1) := by decide +kernel
theorem dX0_emptyCells_30 : decode cX0_emptyCells 30 = .ok (.ireturn, 1) := by decide +kernel
set_option maxRecDepth 20000 in
theorem ggX0_neighbor_X0_cells : GoodIn wsX0_neighbor wsX0_cells := goodIn_r _ [6, 7, 1, 8, 9, 10, 11, 12, 13, 14, 15] (by decide +kernel) (by decide +kernel)
set_option maxRecDepth 20000 in
theorem gX0_neighbor_X0_cells : GoodIn wsX0_neighbor (wsV RX0 43 RX0 yX0_cells wsX0_cells) := goodIn_app (goodIn_of _ (by decide +kernel)) ggX0_neighbor_X0_cells
theorem dX0_neighbor_0 : decode cX0_neighbor 0 = .ok (.aload_n 0, 1) := by decide +kernel
theorem dX0_neighbor_1 : decode cX0_neighbor 1 = .ok (.getfield 15, 3) := by decide +kernel
theorem dX0_neighbor_4 : decode cX0_neighbor 4 = .ok (.iconst 1, 1) := by decide +kernel
theorem dX0_neighbor_5 : decode cX0_neighbor 5 = .ok (.if_icmp .ge 7, 3) := by decide +kernel
theorem dX0_neighbor_8 : decode cX0_neighbor 8 = .ok (.iconst 0, 1) := by decide +kernel
theorem dX0_neighbor_9 : decode cX0_neighbor 9 = .ok (.goto 9, 3) := by decide +kernel
theorem dX0_neighbor_12 : decode cX0_neighbor 12 = .ok (.iload_n 1, 1) := by decide +kernel
theorem dX0_neighbor_13 : decode cX0_neighbor 13 = .ok (.aload_n 0, 1) := by decide +kernel
theorem dX0_neighbor_14 : decode cX0_neighbor 14 = .ok (.getfield 15, 3) := by decide +kernel
theorem dX0_neighbor_17 : decode cX0_neighbor 17 = .ok (.irem, 1) := by decide +kernel
theorem dX0_neighbor_18 : decode cX0_neighbor 18 = .ok (.istore_n 3, 1) := by decide +kernel
theorem dX0_neighbor_19 : decode cX0_neighbor 19 = .ok (.iload_n 2, 1) := by decide +kernel
theorem dX0_neighbor_20 : decode cX0_neighbor 20 = .ok (.tableswitch 89 0 2 #[28, 47, 65], 28) := by decide +kernel
theorem dX0_neighbor_48 : decode cX0_neighbor 48 = .ok (.iload_n 1, 1) := by decide +kernel
theorem dX0_neighbor_49 : decode cX0_neighbor 49 = .ok (.aload_n 0, 1) := by decide +kernel
theorem dX0_neighbor_50 : decode cX0_neighbor 50 = .ok (.getfield 15, 3) := by decide +kernel
theorem dX0_neighbor_53 : decode cX0_neighbor 53 = .ok (.if_icmp .lt 12, 3) := by decide +kernel
theorem dX0_neighbor_56 : decode cX0_neighbor 56 = .ok (.iload_n 1, 1) := by decide +kernel
theorem dX0_neighbor_57 : decode cX0_neighbor 57 = .ok (.aload_n 0, 1) := by decide +kernel
theorem dX0_neighbor_58 : decode cX0_neighbor 58 = .ok (.getfield 15, 3) := by decide +kernel
theorem dX0_neighbor_61 : decode cX0_neighbor 61 = .ok (.isub, 1) := by decide +kernel
theorem dX0_neighbor_62 : decode cX0_neighbor 62 = .ok (.goto 4, 3) := by decide +kernel
theorem dX0_neighbor_65 : decode cX0_neighbor 65 = .ok (.iconst (-1), 1) := by decide +kernel
theorem dX0_neighbor_66 : decode cX0_neighbor 66 = .ok (.ireturn, 1) := by decide +kernel
theorem dX0_neighbor_67 : decode cX0_neighbor 67 = .ok (.iload_n 3, 1) := by decide +kernel
theorem dX0_neighbor_68 : decode cX0_neighbor 68 = .ok (.iconst 1, 1) := by decide +kernel
theorem dX0_neighbor_69 : decode cX0_neighbor 69 = .ok (.iadd, 1) := by decide +kernel
theorem dX0_neighbor_70 : decode cX0_neighbor 70 = .ok (.aload_n 0, 1) := by decide +kernel
theorem dX0_neighbor_71 : decode cX0_neighbor 71 = .ok (.getfield 15, 3) := by decide +kernel
theorem dX0_neighbor_74 : decode cX0_neighbor 74 = .ok (.if_icmp .ge 9, 3) := by decide +kernel
theorem dX0_neighbor_77 : decode cX0_neighbor 77 = .ok (.iload_n 1, 1) := by decide +kernel
theorem dX0_neighbor_78 : decode cX0_neighbor 78 = .ok (.iconst 1, 1) := by decide +kernel
theorem dX0_neighbor_79 : decode cX0_neighbor 79 = .ok (.iadd, 1) := by decide +kernel
theorem dX0_neighbor_80 : decode cX0_neighbor 80 = .ok (.goto 4, 3) := by decide +kernel
theorem dX0_neighbor_83 : decode cX0_neighbor 83 = .ok (.iconst (-1), 1) := by decide +kernel
theorem dX0_neighbor_84 : decode cX0_neighbor 84 = .ok (.ireturn, 1) := by decide +kernel
theorem dX0_neighbor_85 : decode cX0_neighbor 85 = .ok (.iload_n 1, 1) := by decide +kernel
theorem dX0_neighbor_86 : decode cX0_neighbor 86 = .ok (.aload_n 0, 1) := by decide +kernel
theorem dX0_neighbor_87 : decode cX0_neighbor 87 = .ok (.getfield 15, 3) := by decide +kernel
theorem dX0_neighbor_90 : decode cX0_neighbor 90 = .ok (.iadd, 1) := by decide +kernel
theorem dX0_neighbor_91 : decode cX0_neighbor 91 = .ok (.aload_n 0, 1) := by decide +kernel
theorem dX0_neighbor_92 : decode cX0_neighbor 92 = .ok (.invokevirtual 43, 3) := by decide +kernel
theorem dX0_neighbor_95 : decode cX0_neighbor 95 = .ok (.if_icmp .ge 12, 3) := by decide +kernel
theorem dX0_neighbor_98 : decode cX0_neighbor 98 = .ok (.iload_n 1, 1) := by decide +kernel
theorem dX0_neighbor_99 : decode cX0_neighbor 99 = .ok (.aload_n 0, 1) := by decide +kernel
theorem dX0_neighbor_100 : decode cX0_neighbor 100 = .ok (.getfield 15, 3) := by decide +kernel
theorem dX0_neighbor_103 : decode cX0_neighbor 103 = .ok (.iadd, 1) := by decide +kernel
theorem dX0_neighbor_104 : decode cX0_neighbor 104 = .ok (.goto 4, 3) := by decide +kernel
theorem dX0_neighbor_107 : decode cX0_neighbor 107 = .ok (.iconst (-1), 1) := by decide +kernel
theorem dX0_neighbor_108 : decode cX0_neighbor 108 = .ok (.ireturn, 1) := by decide +kernel
theorem dX0_neighbor_109 : decode cX0_neighbor 109 = .ok (.iload_n 3, 1) := by decide +kernel
theorem dX0_neighbor_110 : decode cX0_neighbor 110 = .ok (.ifCond .le 9, 3) := by decide +kernel
theorem dX0_neighbor_113 : decode cX0_neighbor 113 = .ok (.iload_n 1, 1) := by decide +kernel
theorem dX0_neighbor_114 : decode cX0_neighbor 114 = .ok (.iconst 1, 1) := by decide +kernel
theorem dX0_neighbor_115 : decode cX0_neighbor 115 = .ok (.isub, 1) := by decide +kernel
theorem dX0_neighbor_116 : decode cX0_neighbor 116 = .ok (.goto 4, 3) := by decide +kernel
theorem dX0_neighbor_119 : decode cX0_neighbor 119 = .ok (.iconst (-1), 1) := by decide +kernel
theorem dX0_neighbor_120 : decode cX0_neighbor 120 = .ok (.ireturn, 1) := by decide +kernel
theorem dX0_put_0 : decode cX0_put 0 = .ok (.aload_n 0, 1) := by decide +kernel
theorem dX0_put_1 : decode cX0_put 1 = .ok (.getfield 27, 3) := by decide +kernel
theorem dX0_put_4 : decode cX0_put 4 = .ok (.iload_n 1, 1) := by decide +kernel
theorem dX0_put_5 : decode cX0_put 5 = .ok (.iload_n 2, 1) := by decide +kernel
theorem dX0_put_6 : decode cX0_put 6 = .ok (.iastore, 1) := by decide +kernel
theorem dX0_put_7 : decode cX0_put 7 = .ok (.aload_n 0, 1) := by decide +kernel
theorem dX0_put_8 : decode cX0_put 8 = .ok (.getfield 31, 3) := by decide +kernel
theorem dX0_put_11 : decode cX0_put 11 = .ok (.iload_n 2, 1) := by decide +kernel
theorem dX0_put_12 : decode cX0_put 12 = .ok (.bipush 8, 2) := by decide +kernel
theorem dX0_put_14 : decode cX0_put 14 = .ok (.idiv, 1) := by decide +kernel
theorem dX0_put_15 : decode cX0_put 15 = .ok (.iload_n 1, 1) := by decide +kernel
theorem dX0_put_16 : decode cX0_put 16 = .ok (.iastore, 1) := by decide +kernel
theorem dX0_put_17 : decode cX0_put 17 = .ok (.return_, 1) := by decide +kernel
theorem dX0_remove_0 : decode cX0_remove 0 = .ok (.aload_n 0, 1) := by decide +kernel
theorem dX0_remove_1 : decode cX0_remove 1 = .ok (.getfield 31, 3) := by decide +kernel
theorem dX0_remove_4 : decode cX0_remove 4 = .ok (.aload_n 0, 1) := by decide +kernel
theorem dX0_remove_5 : decode cX0_remove 5 = .ok (.getfield 27, 3) := by decide +kernel
theorem dX0_remove_8 : decode cX0_remove 8 = .ok (.iload_n 1, 1) := by decide +kernel
theorem dX0_remove_9 : decode cX0_remove 9 = .ok (.iaload, 1) := by decide +kernel
theorem dX0_remove_10 : decode cX0_remove 10 = .ok (.bipush 8, 2) := by decide +kernel
theorem dX0_remove_12 : decode cX0_remove 12 = .ok (.idiv, 1) := by decide +kernel
theorem dX0_remove_13 : decode cX0_remove 13 = .ok (.iconst (-1), 1) := by decide +kernel
theorem dX0_remove_14 : decode cX0_remove 14 = .ok (.iastore, 1) := by decide +kernel
theorem dX0_remove_15 : decode cX0_remove 15 = .ok (.aload_n 0, 1) := by decide +kernel
theorem dX0_remove_16 : decode cX0_remove 16 = .ok (.getfield 27, 3) := by decide +kernel
theorem dX0_remove_19 : decode cX0_remove 19 = .ok (.iload_n 1, 1) := by decide +kernel
theorem dX0_remove_20 : decode cX0_remove 20 = .ok (.iconst (-1), 1) := by decide +kernel
theorem dX0_remove_21 : decode cX0_remove 21 = .ok (.iastore, 1) := by decide +kernel
theorem dX0_remove_22 : decode cX0_remove 22 = .ok (.return_, 1) := by decide +kernel
set_option maxRecDepth 20000 in
theorem ggX0_removeAllBut_X0_cells : GoodIn wsX0_removeAllBut wsX0_cells := goodIn_r _ [5, 6, 7, 18, 19, 20, 21, 22, 23, 24, 25] (by decide +kernel) (by decide +kernel)
set_option maxRecDepth 20000 in
theorem gX0_removeAllBut_X0_cells : GoodIn wsX0_removeAllBut (wsV RX0 43 RX0 yX0_cells wsX0_cells) := goodIn_app (goodIn_of _ (by decide +kernel)) ggX0_removeAllBut_X0_cells
set_option maxRecDepth 20000 in
theorem ggX0_removeAllBut_X0_isEmpty : GoodIn wsX0_removeAllBut wsX0_isEmpty := goodIn_r _ [11, 12, 18, 19, 20, 21, 22, 23, 24, 25] (by decide +kernel) (by decide +kernel)
set_option maxRecDepth 20000 in
theorem gX0_removeAllBut_X0_isEmpty : GoodIn wsX0_removeAllBut (wsV RX0 47 RX0 yX0_isEmpty wsX0_isEmpty) := goodIn_app (goodIn_of _ (by decide +kernel)) ggX0_removeAllBut_X0_isEmpty
set_option maxRecDepth 20000 in
theorem ggX0_removeAllBut_X0_remove : GoodIn wsX0_removeAllBut wsX0_remove := goodIn_r _ [16, 17, 12, 18, 19, 20, 21, 22, 23, 24, 25] (by decide +kernel) (by decide +kernel)
set_option maxRecDepth 20000 in
theorem gX0_removeAllBut_X0_remove : GoodIn wsX0_removeAllBut (wsV RX0 51 RX0 yX0_remove wsX0_remove) := goodIn_app (goodIn_of _ (by decide +kernel)) ggX0_removeAllBut_X0_remove
theorem dX0_removeAllBut_0 : decode cX0_removeAllBut 0 = .ok (.iconst 0, 1) := by decide +kernel
theorem dX0_removeAllBut_1 : decode cX0_removeAllBut 1 = .ok (.istore_n 2, 1) := by decide +kernel
theorem dX0_removeAllBut_2 : decode cX0_removeAllBut 2 = .ok (.iconst 0, 1) := by decide +kernel
theorem dX0_removeAllBut_3 : decode cX0_removeAllBut 3 = .ok (.istore_n 3, 1) := by decide +kernel
theorem dX0_removeAllBut_4 : decode cX0_removeAllBut 4 = .ok (.iload_n 3, 1) := by decide +kernel
theorem dX0_removeAllBut_5 : decode cX0_removeAllBut 5 = .ok (.aload_n 0, 1) := by decide +kernel
theorem dX0_removeAllBut_6 : decode cX0_removeAllBut 6 = .ok (.invokevirtual 43, 3) := by decide +kernel
theorem dX0_removeAllBut_9 : decode cX0_removeAllBut 9 = .ok (.if_icmp .ge 33, 3) := by decide +kernel
theorem dX0_removeAllBut_12 : decode cX0_removeAllBut 12 = .ok (.aload_n 0, 1) := by decide +kernel
theorem dX0_removeAllBut_13 : decode cX0_removeAllBut 13 = .ok (.iload_n 3, 1) := by decide +kernel
theorem dX0_removeAllBut_14 : decode cX0_removeAllBut 14 = .ok (.invokevirtual 47, 3) := by decide +kernel
theorem dX0_removeAllBut_17 : decode cX0_removeAllBut 17 = .ok (.ifCond .ne 19, 3) := by decide +kernel
theorem dX0_removeAllBut_20 : decode cX0_removeAllBut 20 = .ok (.iload_n 1, 1) := by decide +kernel
theorem dX0_removeAllBut_21 : decode cX0_removeAllBut 21 = .ok (.iload_n 3, 1) := by decide +kernel
theorem dX0_removeAllBut_22 : decode cX0_removeAllBut 22 = .ok (.ishr, 1) := by decide +kernel
theorem dX0_removeAllBut_23 : decode cX0_removeAllBut 23 = .ok (.iconst 1, 1) := by decide +kernel
theorem dX0_removeAllBut_24 : decode cX0_removeAllBut 24 = .ok (.iand, 1) := by decide +kernel
theorem dX0_removeAllBut_25 : decode cX0_removeAllBut 25 = .ok (.ifCond .ne 11, 3) := by decide +kernel
theorem dX0_removeAllBut_28 : decode cX0_removeAllBut 28 = .ok (.aload_n 0, 1) := by decide +kernel
theorem dX0_removeAllBut_29 : decode cX0_removeAllBut 29 = .ok (.iload_n 3, 1) := by decide +kernel
theorem dX0_removeAllBut_30 : decode cX0_removeAllBut 30 = .ok (.invokevirtual 51, 3) := by decide +kernel
theorem dX0_removeAllBut_33 : decode cX0_removeAllBut 33 = .ok (.iinc 2 1, 3) := by decide +kernel
theorem dX0_removeAllBut_36 : decode cX0_removeAllBut 36 = .ok (.iinc 3 1, 3) := by decide +kernel
theorem dX0_removeAllBut_39 : decode cX0_removeAllBut 39 = .ok (.goto (-35), 3) := by decide +kernel
theorem dX0_removeAllBut_42 : decode cX0_removeAllBut 42 = .ok (.iload_n 2, 1) := by decide +kernel
theorem dX0_removeAllBut_43 : decode cX0_removeAllBut 43 = .ok (.ireturn, 1) := by decide +kernel
set_option maxRecDepth 20000 in
theorem ggX0_mirror_X0_swapTurnedOver : GoodIn wsX0_mirror wsX0_swapTurnedOver := goodIn_r _ [10, 5, 11, 12, 13, 22, 23, 24, 25, 26, 27, 28, 29] (by decide +kernel) (by decide +kernel)
set_option maxRecDepth 20000 in
theorem gX0_mirror_X0_swapTurnedOver : GoodIn wsX0_mirror (wsV RX0 55 RX0 yX0_swapTurnedOver wsX0_swapTurnedOver) := goodIn_app (goodIn_of _ (by decide +kernel)) ggX0_mirror_X0_swapTurnedOver
set_option maxRecDepth 20000 in
theorem ggX0_mirror_X0_cells : GoodIn wsX0_mirror wsX0_cells := goodIn_r _ [17, 2, 3, 22, 23, 24, 25, 26, 27, 28, 29] (by decide +kernel) (by decide +kernel)
set_option maxRecDepth 20000 in
theorem gX0_mirror_X0_cells : GoodIn wsX0_mirror (wsV RX0 43 RX0 yX0_cells wsX0_cells) := goodIn_app (goodIn_of _ (by decide +kernel)) ggX0_mirror_X0_cells
set_option maxRecDepth 20000 in
theorem ggX0_mirror_X0_isEmpty : GoodIn wsX0_mirror wsX0_isEmpty := goodIn_r _ [21, 5, 22, 23, 24, 25, 26, 27, 28, 29] (by decide +kernel) (by decide +kernel)
set_option maxRecDepth 20000 in
theorem gX0_mirror_X0_isEmpty : GoodIn wsX0_mirror (wsV RX0 47 RX0 yX0_isEmpty wsX0_isEmpty) := goodIn_app (goodIn_of _ (by decide +kernel)) ggX0_mirror_X0_isEmpty
theorem dX0_mirror_0 : decode cX0_mirror 0 = .ok (.aload_n 0, 1) := by decide +kernel
theorem dX0_mirror_1 : decode cX0_mirror 1 = .ok (.getfield 24, 3) := by decide +kernel
theorem dX0_mirror_4 : decode cX0_mirror 4 = .ok (.istore_n 1, 1) := by decide +kernel
theorem dX0_mirror_5 : decode cX0_mirror 5 = .ok (.aload_n 0, 1) := by decide +kernel
theorem dX0_mirror_6 : decode cX0_mirror 6 = .ok (.iconst 0, 1) := by decide +kernel
theorem dX0_mirror_7 : decode cX0_mirror 7 = .ok (.putfield 24, 3) := by decide +kernel
theorem dX0_mirror_10 : decode cX0_mirror 10 = .ok (.iconst 0, 1) := by decide +kernel
theorem dX0_mirror_11 : decode cX0_mirror 11 = .ok (.istore_n 2, 1) := by decide +kernel
theorem dX0_mirror_12 : decode cX0_mirror 12 = .ok (.iload_n 2, 1) := by decide +kernel
theorem dX0_mirror_13 : decode cX0_mirror 13 = .ok (.aload_n 0, 1) := by decide +kernel
theorem dX0_mirror_14 : decode cX0_mirror 14 = .ok (.getfield 9, 3) := by decide +kernel
theorem dX0_mirror_17 : decode cX0_mirror 17 = .ok (.if_icmp .ge 85, 3) := by decide +kernel
theorem dX0_mirror_20 : decode cX0_mirror 20 = .ok (.iconst 0, 1) := by decide +kernel
theorem dX0_mirror_21 : decode cX0_mirror 21 = .ok (.istore_n 3, 1) := by decide +kernel
theorem dX0_mirror_22 : decode cX0_mirror 22 = .ok (.iload_n 3, 1) := by decide +kernel
theorem dX0_mirror_23 : decode cX0_mirror 23 = .ok (.aload_n 0, 1) := by decide +kernel
theorem dX0_mirror_24 : decode cX0_mirror 24 = .ok (.getfield 15, 3) := by decide +kernel
theorem dX0_mirror_27 : decode cX0_mirror 27 = .ok (.if_icmp .ge 69, 3) := by decide +kernel
theorem dX0_mirror_30 : decode cX0_mirror 30 = .ok (.iload_n 2, 1) := by decide +kernel
theorem dX0_mirror_31 : decode cX0_mirror 31 = .ok (.aload_n 0, 1) := by decide +kernel
theorem dX0_mirror_32 : decode cX0_mirror 32 = .ok (.getfield 15, 3) := by decide +kernel
theorem dX0_mirror_35 : decode cX0_mirror 35 = .ok (.imul, 1) := by decide +kernel
theorem dX0_mirror_36 : decode cX0_mirror 36 = .ok (.iload_n 3, 1) := by decide +kernel
theorem dX0_mirror_37 : decode cX0_mirror 37 = .ok (.iadd, 1) := by decide +kernel
theorem dX0_mirror_38 : decode cX0_mirror 38 = .ok (.istore 4, 2) := by decide +kernel
theorem dX0_mirror_40 : decode cX0_mirror 40 = .ok (.iload_n 2, 1) := by decide +kernel
theorem dX0_mirror_41 : decode cX0_mirror 41 = .ok (.aload_n 0, 1) := by decide +kernel
theorem dX0_mirror_42 : decode cX0_mirror 42 = .ok (.getfield 15, 3) := by decide +kernel
theorem dX0_mirror_45 : decode cX0_mirror 45 = .ok (.imul, 1) := by decide +kernel
theorem dX0_mirror_46 : decode cX0_mirror 46 = .ok (.aload_n 0, 1) := by decide +kernel
theorem dX0_mirror_47 : decode cX0_mirror 47 = .ok (.getfield 15, 3) := by decide +kernel
theorem dX0_mirror_50 : decode cX0_mirror 50 = .ok (.iadd, 1) := by decide +kernel
theorem dX0_mirror_51 : decode cX0_mirror 51 = .ok (.iconst 1, 1) := by decide +kernel
theorem dX0_mirror_52 : decode cX0_mirror 52 = .ok (.isub, 1) := by decide +kernel
theorem dX0_mirror_53 : decode cX0_mirror 53 = .ok (.iload_n 3, 1) := by decide +kernel
theorem dX0_mirror_54 : decode cX0_mirror 54 = .ok (.isub, 1) := by decide +kernel
theorem dX0_mirror_55 : decode cX0_mirror 55 = .ok (.istore 5, 2) := by decide +kernel
theorem dX0_mirror_57 : decode cX0_mirror 57 = .ok (.aload_n 0, 1) := by decide +kernel
theorem dX0_mirror_58 : decode cX0_mirror 58 = .ok (.dup, 1) := by decide +kernel
theorem dX0_mirror_59 : decode cX0_mirror 59 = .ok (.getfield 24, 3) := by decide +kernel
theorem dX0_mirror_62 : decode cX0_mirror 62 = .ok (.iload_n 1, 1) := by decide +kernel
theorem dX0_mirror_63 : decode cX0_mirror 63 = .ok (.iload 5, 2) := by decide +kernel
theorem dX0_mirror_65 : decode cX0_mirror 65 = .ok (.ishr, 1) := by decide +kernel
theorem dX0_mirror_66 : decode cX0_mirror 66 = .ok (.iconst 1, 1) := by decide +kernel
theorem dX0_mirror_67 : decode cX0_mirror 67 = .ok (.iand, 1) := by decide +kernel
theorem dX0_mirror_68 : decode cX0_mirror 68 = .ok (.iload 4, 2) := by decide +kernel
theorem dX0_mirror_70 : decode cX0_mirror 70 = .ok (.ishl, 1) := by decide +kernel
theorem dX0_mirror_71 : decode cX0_mirror 71 = .ok (.ior, 1) := by decide +kernel
theorem dX0_mirror_72 : decode cX0_mirror 72 = .ok (.putfield 24, 3) := by decide +kernel
theorem dX0_mirror_75 : decode cX0_mirror 75 = .ok (.iload 4, 2) := by decide +kernel
theorem dX0_mirror_77 : decode cX0_mirror 77 = .ok (.iload 5, 2) := by decide +kernel
theorem dX0_mirror_79 : decode cX0_mirror 79 = .ok (.if_icmp .gt 11, 3) := by decide +kernel
theorem dX0_mirror_82 : decode cX0_mirror 82 = .ok (.aload_n 0, 1) := by decide +kernel
theorem dX0_mirror_83 : decode cX0_mirror 83 = .ok (.iload 4, 2) := by decide +kernel
theorem dX0_mirror_85 : decode cX0_mirror 85 = .ok (.iload 5, 2) := by decide +kernel
theorem dX0_mirror_87 : decode cX0_mirror 87 = .ok (.invokevirtual 55, 3) := by decide +kernel
theorem dX0_mirror_90 : decode cX0_mirror 90 = .ok (.iinc 3 1, 3) := by decide +kernel
theorem dX0_mirror_93 : decode cX0_mirror 93 = .ok (.goto (-71), 3) := by decide +kernel
theorem dX0_mirror_96 : decode cX0_mirror 96 = .ok (.iinc 2 1, 3) := by decide +kernel
theorem dX0_mirror_99 : decode cX0_mirror 99 = .ok (.goto (-87), 3) := by decide +kernel
theorem dX0_mirror_102 : decode cX0_mirror 102 = .ok (.iconst 0, 1) := by decide +kernel
theorem dX0_mirror_103 : decode cX0_mirror 103 = .ok (.istore_n 2, 1) := by decide +kernel
theorem dX0_mirror_104 : decode cX0_mirror 104 = .ok (.iload_n 2, 1) := by decide +kernel
theorem dX0_mirror_105 : decode cX0_mirror 105 = .ok (.aload_n 0, 1) := by decide +kernel
theorem dX0_mirror_106 : decode cX0_mirror 106 = .ok (.invokevirtual 43, 3) := by decide +kernel
theorem dX0_mirror_109 : decode cX0_mirror 109 = .ok (.if_icmp .ge 32, 3) := by decide +kernel
theorem dX0_mirror_112 : decode cX0_mirror 112 = .ok (.aload_n 0, 1) := by decide +kernel
theorem dX0_mirror_113 : decode cX0_mirror 113 = .ok (.iload_n 2, 1) := by decide +kernel
theorem dX0_mirror_114 : decode cX0_mirror 114 = .ok (.invokevirtual 47, 3) := by decide +kernel
theorem dX0_mirror_117 : decode cX0_mirror 117 = .ok (.ifCond .ne 18, 3) := by decide +kernel
theorem dX0_mirror_120 : decode cX0_mirror 120 = .ok (.aload_n 0, 1) := by decide +kernel
theorem dX0_mirror_121 : decode cX0_mirror 121 = .ok (.getfield 31, 3) := by decide +kernel
theorem dX0_mirror_124 : decode cX0_mirror 124 = .ok (.aload_n 0, 1) := by decide +kernel
theorem dX0_mirror_125 : decode cX0_mirror 125 = .ok (.getfield 27, 3) := by decide +kernel
theorem dX0_mirror_128 : decode cX0_mirror 128 = .ok (.iload_n 2, 1) := by decide +kernel
theorem dX0_mirror_129 : decode cX0_mirror 129 = .ok (.iaload, 1) := by decide +kernel
theorem dX0_mirror_130 : decode cX0_mirror 130 = .ok (.bipush 8, 2) := by decide +kernel
theorem dX0_mirror_132 : decode cX0_mirror 132 = .ok (.idiv, 1) := by decide +kernel
theorem dX0_mirror_133 : decode cX0_mirror 133 = .ok (.iload_n 2, 1) := by decide +kernel
theorem dX0_mirror_134 : decode cX0_mirror 134 = .ok (.iastore, 1) := by decide +kernel
theorem dX0_mirror_135 : decode cX0_mirror 135 = .ok (.iinc 2 1, 3) := by decide +kernel
theorem dX0_mirror_138 : decode cX0_mirror 138 = .ok (.goto (-34), 3) := by decide +kernel
theorem dX0_mirror_141 : decode cX0_mirror 141 = .ok (.return_, 1) := by decide +kernel
set_option maxRecDepth 20000 in
theorem ggX0_swapTurnedOver_X6_placingTurnedOver : GoodIn wsX0_swapTurnedOver wsX6_placingTurnedOver := goodIn_r _ [4] (by decide +kernel) (by decide +kernel)
set_option maxRecDepth 20000 in
theorem gX0_swapTurnedOver_X6_placingTurnedOver_n59 : GoodIn wsX0_swapTurnedOver (wsX6_placingTurnedOver) := ggX0_swapTurnedOver_X6_placingTurnedOver
theorem dX0_swapTurnedOver_0 : decode cX0_swapTurnedOver 0 = .ok (.aload_n 0, 1) := by decide +kernel
theorem dX0_swapTurnedOver_1 : decode cX0_swapTurnedOver 1 = .ok (.getfield 27, 3) := by decide +kernel
theorem dX0_swapTurnedOver_4 : decode cX0_swapTurnedOver 4 = .ok (.iload_n 1, 1) := by decide +kernel
theorem dX0_swapTurnedOver_5 : decode cX0_swapTurnedOver 5 = .ok (.iaload, 1) := by decide +kernel
theorem dX0_swapTurnedOver_6 : decode cX0_swapTurnedOver 6 = .ok (.istore_n 3, 1) := by decide +kernel
theorem dX0_swapTurnedOver_7 : decode cX0_swapTurnedOver 7 = .ok (.aload_n 0, 1) := by decide +kernel
theorem dX0_swapTurnedOver_8 : decode cX0_swapTurnedOver 8 = .ok (.getfield 27, 3) := by decide +kernel
theorem dX0_swapTurnedOver_11 : decode cX0_swapTurnedOver 11 = .ok (.iload_n 1, 1) := by decide +kernel
theorem dX0_swapTurnedOver_12 : decode cX0_swapTurnedOver 12 = .ok (.aload_n 0, 1) := by decide +kernel
theorem dX0_swapTurnedOver_13 : decode cX0_swapTurnedOver 13 = .ok (.getfield 27, 3) := by decide +kernel
theorem dX0_swapTurnedOver_16 : decode cX0_swapTurnedOver 16 = .ok (.iload_n 2, 1) := by decide +kernel
theorem dX0_swapTurnedOver_17 : decode cX0_swapTurnedOver 17 = .ok (.iaload, 1) := by decide +kernel
theorem dX0_swapTurnedOver_18 : decode cX0_swapTurnedOver 18 = .ok (.invokestatic 59, 3) := by decide +kernel
theorem dX0_swapTurnedOver_21 : decode cX0_swapTurnedOver 21 = .ok (.iastore, 1) := by decide +kernel
theorem dX0_swapTurnedOver_22 : decode cX0_swapTurnedOver 22 = .ok (.aload_n 0, 1) := by decide +kernel
theorem dX0_swapTurnedOver_23 : decode cX0_swapTurnedOver 23 = .ok (.getfield 27, 3) := by decide +kernel
theorem dX0_swapTurnedOver_26 : decode cX0_swapTurnedOver 26 = .ok (.iload_n 2, 1) := by decide +kernel
theorem dX0_swapTurnedOver_27 : decode cX0_swapTurnedOver 27 = .ok (.iload_n 3, 1) := by decide +kernel
theorem dX0_swapTurnedOver_28 : decode cX0_swapTurnedOver 28 = .ok (.invokestatic 59, 3) := by decide +kernel
theorem dX0_swapTurnedOver_31 : decode cX0_swapTurnedOver 31 = .ok (.iastore, 1) := by decide +kernel
theorem dX0_swapTurnedOver_32 : decode cX0_swapTurnedOver 32 = .ok (.return_, 1) := by decide +kernel
set_option maxRecDepth 20000 in
theorem ggX0_addFaces_X6_lookOfFaces : GoodIn wsX0_addFaces wsX6_lookOfFaces := goodIn_r _ [5, 6, 7, 4, 8, 9, 10, 11] (by decide +kernel) (by decide +kernel)
set_option maxRecDepth 20000 in
theorem gX0_addFaces_X6_lookOfFaces_n63 : GoodIn wsX0_addFaces (wsX6_lookOfFaces) := ggX0_addFaces_X6_lookOfFaces
set_option maxRecDepth 20000 in
theorem ggX0_addFaces_X0_makeWays : GoodIn wsX0_addFaces wsX0_makeWays := goodIn_r _ [16, 1, 17, 4, 18, 19, 20, 21, 22, 9, 10, 11, 23, 24, 25, 26, 27, 28, 29, 30, 31, 32] (by decide +kernel) (by decide +kernel)
set_option maxRecDepth 20000 in
theorem gX0_addFaces_X0_makeWays : GoodIn wsX0_addFaces (wsV RX0 67 RX0 yX0_makeWays wsX0_makeWays) := goodIn_app (goodIn_of _ (by decide +kernel)) ggX0_addFaces_X0_makeWays
theorem dX0_addFaces_0 : decode cX0_addFaces 0 = .ok (.aload_n 0, 1) := by decide +kernel
theorem dX0_addFaces_1 : decode cX0_addFaces 1 = .ok (.getfield 34, 3) := by decide +kernel
theorem dX0_addFaces_4 : decode cX0_addFaces 4 = .ok (.bipush 8, 2) := by decide +kernel
theorem dX0_addFaces_6 : decode cX0_addFaces 6 = .ok (.aload_n 0, 1) := by decide +kernel
theorem dX0_addFaces_7 : decode cX0_addFaces 7 = .ok (.getfield 21, 3) := by decide +kernel
theorem dX0_addFaces_10 : decode cX0_addFaces 10 = .ok (.imul, 1) := by decide +kernel
theorem dX0_addFaces_11 : decode cX0_addFaces 11 = .ok (.iload_n 1, 1) := by decide +kernel
theorem dX0_addFaces_12 : decode cX0_addFaces 12 = .ok (.iload_n 2, 1) := by decide +kernel
theorem dX0_addFaces_13 : decode cX0_addFaces 13 = .ok (.invokestatic 63, 3) := by decide +kernel
theorem dX0_addFaces_16 : decode cX0_addFaces 16 = .ok (.iastore, 1) := by decide +kernel
theorem dX0_addFaces_17 : decode cX0_addFaces 17 = .ok (.aload_n 0, 1) := by decide +kernel
theorem dX0_addFaces_18 : decode cX0_addFaces 18 = .ok (.aload_n 0, 1) := by decide +kernel
theorem dX0_addFaces_19 : decode cX0_addFaces 19 = .ok (.getfield 21, 3) := by decide +kernel
theorem dX0_addFaces_22 : decode cX0_addFaces 22 = .ok (.invokevirtual 67, 3) := by decide +kernel
theorem dX0_addFaces_25 : decode cX0_addFaces 25 = .ok (.aload_n 0, 1) := by decide +kernel
theorem dX0_addFaces_26 : decode cX0_addFaces 26 = .ok (.dup, 1) := by decide +kernel
theorem dX0_addFaces_27 : decode cX0_addFaces 27 = .ok (.getfield 21, 3) := by decide +kernel
theorem dX0_addFaces_30 : decode cX0_addFaces 30 = .ok (.iconst 1, 1) := by decide +kernel
theorem dX0_addFaces_31 : decode cX0_addFaces 31 = .ok (.iadd, 1) := by decide +kernel
theorem dX0_addFaces_32 : decode cX0_addFaces 32 = .ok (.putfield 21, 3) := by decide +kernel
theorem dX0_addFaces_35 : decode cX0_addFaces 35 = .ok (.return_, 1) := by decide +kernel
set_option maxRecDepth 20000 in
theorem ggX0_makeWays_X6_turnedOver : GoodIn wsX0_makeWays wsX6_turnedOver := goodIn_r _ [4, 5, 6, 3, 7, 8, 9, 10, 11] (by decide +kernel) (by decide +kernel)
set_option maxRecDepth 20000 in
theorem gX0_makeWays_X6_turnedOver_n70 : GoodIn wsX0_makeWays (wsX6_turnedOver) := ggX0_makeWays_X6_turnedOver
set_option maxRecDepth 20000 in
theorem ggX0_makeWays_X6_turned : GoodIn wsX0_makeWays wsX6_turned := goodIn_r _ [13, 5, 6, 3, 7, 8] (by decide +kernel) (by decide +kernel)
set_option maxRecDepth 20000 in
theorem gX0_makeWays_X6_turned_n73 : GoodIn wsX0_makeWays (wsX6_turned) := ggX0_makeWays_X6_turned
theorem dX0_makeWays_0 : decode cX0_makeWays 0 = .ok (.bipush 8, 2) := by decide +kernel
theorem dX0_makeWays_2 : decode cX0_makeWays 2 = .ok (.iload_n 1, 1) := by decide +kernel
theorem dX0_makeWays_3 : decode cX0_makeWays 3 = .ok (.imul, 1) := by decide +kernel
theorem dX0_makeWays_4 : decode cX0_makeWays 4 = .ok (.istore_n 2, 1) := by decide +kernel
theorem dX0_makeWays_5 : decode cX0_makeWays 5 = .ok (.aload_n 0, 1) := by decide +kernel
theorem dX0_makeWays_6 : decode cX0_makeWays 6 = .ok (.getfield 34, 3) := by decide +kernel
theorem dX0_makeWays_9 : decode cX0_makeWays 9 = .ok (.iload_n 2, 1) := by decide +kernel
theorem dX0_makeWays_10 : decode cX0_makeWays 10 = .ok (.iconst 4, 1) := by decide +kernel
theorem dX0_makeWays_11 : decode cX0_makeWays 11 = .ok (.iadd, 1) := by decide +kernel
theorem dX0_makeWays_12 : decode cX0_makeWays 12 = .ok (.aload_n 0, 1) := by decide +kernel
theorem dX0_makeWays_13 : decode cX0_makeWays 13 = .ok (.getfield 34, 3) := by decide +kernel
theorem dX0_makeWays_16 : decode cX0_makeWays 16 = .ok (.iload_n 2, 1) := by decide +kernel
theorem dX0_makeWays_17 : decode cX0_makeWays 17 = .ok (.iaload, 1) := by decide +kernel
theorem dX0_makeWays_18 : decode cX0_makeWays 18 = .ok (.invokestatic 70, 3) := by decide +kernel
theorem dX0_makeWays_21 : decode cX0_makeWays 21 = .ok (.iastore, 1) := by decide +kernel
theorem dX0_makeWays_22 : decode cX0_makeWays 22 = .ok (.iconst 1, 1) := by decide +kernel
theorem dX0_makeWays_23 : decode cX0_makeWays 23 = .ok (.istore_n 3, 1) := by decide +kernel
theorem dX0_makeWays_24 : decode cX0_makeWays 24 = .ok (.iload_n 3, 1) := by decide +kernel
theorem dX0_makeWays_25 : decode cX0_makeWays 25 = .ok (.iconst 4, 1) := by decide +kernel
theorem dX0_makeWays_26 : decode cX0_makeWays 26 = .ok (.if_icmp .ge 55, 3) := by decide +kernel
theorem dX0_makeWays_29 : decode cX0_makeWays 29 = .ok (.aload_n 0, 1) := by decide +kernel
theorem dX0_makeWays_30 : decode cX0_makeWays 30 = .ok (.getfield 34, 3) := by decide +kernel
theorem dX0_makeWays_33 : decode cX0_makeWays 33 = .ok (.iload_n 2, 1) := by decide +kernel
theorem dX0_makeWays_34 : decode cX0_makeWays 34 = .ok (.iload_n 3, 1) := by decide +kernel
theorem dX0_makeWays_35 : decode cX0_makeWays 35 = .ok (.iadd, 1) := by decide +kernel
theorem dX0_makeWays_36 : decode cX0_makeWays 36 = .ok (.aload_n 0, 1) := by decide +kernel
theorem dX0_makeWays_37 : decode cX0_makeWays 37 = .ok (.getfield 34, 3) := by decide +kernel
theorem dX0_makeWays_40 : decode cX0_makeWays 40 = .ok (.iload_n 2, 1) := by decide +kernel
theorem dX0_makeWays_41 : decode cX0_makeWays 41 = .ok (.iload_n 3, 1) := by decide +kernel
theorem dX0_makeWays_42 : decode cX0_makeWays 42 = .ok (.iadd, 1) := by decide +kernel
theorem dX0_makeWays_43 : decode cX0_makeWays 43 = .ok (.iconst 1, 1) := by decide +kernel
theorem dX0_makeWays_44 : decode cX0_makeWays 44 = .ok (.isub, 1) := by decide +kernel
theorem dX0_makeWays_45 : decode cX0_makeWays 45 = .ok (.iaload, 1) := by decide +kernel
theorem dX0_makeWays_46 : decode cX0_makeWays 46 = .ok (.invokestatic 73, 3) := by decide +kernel
theorem dX0_makeWays_49 : decode cX0_makeWays 49 = .ok (.iastore, 1) := by decide +kernel
theorem dX0_makeWays_50 : decode cX0_makeWays 50 = .ok (.aload_n 0, 1) := by decide +kernel
theorem dX0_makeWays_51 : decode cX0_makeWays 51 = .ok (.getfield 34, 3) := by decide +kernel
theorem dX0_makeWays_54 : decode cX0_makeWays 54 = .ok (.iload_n 2, 1) := by decide +kernel
theorem dX0_makeWays_55 : decode cX0_makeWays 55 = .ok (.iconst 4, 1) := by decide +kernel
theorem dX0_makeWays_56 : decode cX0_makeWays 56 = .ok (.iadd, 1) := by decide +kernel
theorem dX0_makeWays_57 : decode cX0_makeWays 57 = .ok (.iload_n 3, 1) := by decide +kernel
theorem dX0_makeWays_58 : decode cX0_makeWays 58 = .ok (.iadd, 1) := by decide +kernel
theorem dX0_makeWays_59 : decode cX0_makeWays 59 = .ok (.aload_n 0, 1) := by decide +kernel
theorem dX0_makeWays_60 : decode cX0_makeWays 60 = .ok (.getfield 34, 3) := by decide +kernel
theorem dX0_makeWays_63 : decode cX0_makeWays 63 = .ok (.iload_n 2, 1) := by decide +kernel
theorem dX0_makeWays_64 : decode cX0_makeWays 64 = .ok (.iconst 4, 1) := by decide +kernel
theorem dX0_makeWays_65 : decode cX0_makeWays 65 = .ok (.iadd, 1) := by decide +kernel
theorem dX0_makeWays_66 : decode cX0_makeWays 66 = .ok (.iload_n 3, 1) := by decide +kernel
theorem dX0_makeWays_67 : decode cX0_makeWays 67 = .ok (.iadd, 1) := by decide +kernel
theorem dX0_makeWays_68 : decode cX0_makeWays 68 = .ok (.iconst 1, 1) := by decide +kernel
theorem dX0_makeWays_69 : decode cX0_makeWays 69 = .ok (.isub, 1) := by decide +kernel
theorem dX0_makeWays_70 : decode cX0_makeWays 70 = .ok (.iaload, 1) := by decide +kernel
theorem dX0_makeWays_71 : decode cX0_makeWays 71 = .ok (.invokestatic 73, 3) := by decide +kernel
theorem dX0_makeWays_74 : decode cX0_makeWays 74 = .ok (.iastore, 1) := by decide +kernel
theorem dX0_makeWays_75 : decode cX0_makeWays 75 = .ok (.iinc 3 1, 3) := by decide +kernel
theorem dX0_makeWays_78 : decode cX0_makeWays 78 = .ok (.goto (-54), 3) := by decide +kernel
theorem dX0_makeWays_81 : decode cX0_makeWays 81 = .ok (.return_, 1) := by decide +kernel
set_option maxRecDepth 20000 in
theorem ggX0_cutTiles_X0_cells : GoodIn wsX0_cutTiles wsX0_cells := goodIn_r _ [7, 8, 9, 44, 45, 46, 47, 48, 49, 50, 51] (by decide +kernel) (by decide +kernel)
set_option maxRecDepth 20000 in
theorem gX0_cutTiles_X0_cells : GoodIn wsX0_cutTiles (wsV RX0 43 RX0 yX0_cells wsX0_cells) := goodIn_app (goodIn_of _ (by decide +kernel)) ggX0_cutTiles_X0_cells
set_option maxRecDepth 20000 in
theorem ggX0_cutTiles_X0_cutSide : GoodIn wsX0_cutTiles wsX0_cutSide := goodIn_r _ [13, 2, 14, 15, 16, 6, 17, 9, 3, 4, 5, 7, 8, 18, 19, 20, 21, 22, 23, 24, 25, 26, 27, 28, 44, 45, 46, 47, 48, 49, 50, 51, 52, 53, 54] (by decide +kernel) (by decide +kernel)
set_option maxRecDepth 20000 in
theorem gX0_cutTiles_X0_cutSide : GoodIn wsX0_cutTiles (wsV RX0 76 RX0 yX0_cutSide wsX0_cutSide) := goodIn_app (goodIn_of _ (by decide +kernel)) ggX0_cutTiles_X0_cutSide
set_option maxRecDepth 20000 in
theorem ggX0_cutTiles_X0_makeWays : GoodIn wsX0_cutTiles wsX0_makeWays := goodIn_r _ [32, 2, 33, 27, 34, 35, 36, 37, 38, 39, 40, 41, 42, 43, 44, 45, 46, 47, 48, 49, 50, 51] (by decide +kernel) (by decide +kernel)
set_option maxRecDepth 20000 in
theorem gX0_cutTiles_X0_makeWays : GoodIn wsX0_cutTiles (wsV RX0 67 RX0 yX0_makeWays wsX0_makeWays) := goodIn_app (goodIn_of _ (by decide +kernel)) ggX0_cutTiles_X0_makeWays
theorem dX0_cutTiles_0 : decode cX0_cutTiles 0 = .ok (.aload_n 0, 1) := by decide +kernel
theorem dX0_cutTiles_1 : decode cX0_cutTiles 1 = .ok (.aload_n 0, 1) := by decide +kernel
theorem dX0_cutTiles_2 : decode cX0_cutTiles 2 = .ok (.invokevirtual 43, 3) := by decide +kernel
theorem dX0_cutTiles_5 : decode cX0_cutTiles 5 = .ok (.putfield 21, 3) := by decide +kernel
theorem dX0_cutTiles_8 : decode cX0_cutTiles 8 = .ok (.iconst 0, 1) := by decide +kernel
theorem dX0_cutTiles_9 : decode cX0_cutTiles 9 = .ok (.istore_n 2, 1) := by decide +kernel
theorem dX0_cutTiles_10 : decode cX0_cutTiles 10 = .ok (.iload_n 2, 1) := by decide +kernel
theorem dX0_cutTiles_11 : decode cX0_cutTiles 11 = .ok (.aload_n 0, 1) := by decide +kernel
theorem dX0_cutTiles_12 : decode cX0_cutTiles 12 = .ok (.getfield 21, 3) := by decide +kernel
theorem dX0_cutTiles_15 : decode cX0_cutTiles 15 = .ok (.if_icmp .ge 19, 3) := by decide +kernel
theorem dX0_cutTiles_18 : decode cX0_cutTiles 18 = .ok (.aload_n 0, 1) := by decide +kernel
theorem dX0_cutTiles_19 : decode cX0_cutTiles 19 = .ok (.getfield 34, 3) := by decide +kernel
theorem dX0_cutTiles_22 : decode cX0_cutTiles 22 = .ok (.bipush 8, 2) := by decide +kernel
theorem dX0_cutTiles_24 : decode cX0_cutTiles 24 = .ok (.iload_n 2, 1) := by decide +kernel
theorem dX0_cutTiles_25 : decode cX0_cutTiles 25 = .ok (.imul, 1) := by decide +kernel
theorem dX0_cutTiles_26 : decode cX0_cutTiles 26 = .ok (.iconst 0, 1) := by decide +kernel
theorem dX0_cutTiles_27 : decode cX0_cutTiles 27 = .ok (.iastore, 1) := by decide +kernel
theorem dX0_cutTiles_28 : decode cX0_cutTiles 28 = .ok (.iinc 2 1, 3) := by decide +kernel
theorem dX0_cutTiles_31 : decode cX0_cutTiles 31 = .ok (.goto (-21), 3) := by decide +kernel
theorem dX0_cutTiles_34 : decode cX0_cutTiles 34 = .ok (.iconst 0, 1) := by decide +kernel
theorem dX0_cutTiles_35 : decode cX0_cutTiles 35 = .ok (.istore_n 2, 1) := by decide +kernel
theorem dX0_cutTiles_36 : decode cX0_cutTiles 36 = .ok (.iload_n 2, 1) := by decide +kernel
theorem dX0_cutTiles_37 : decode cX0_cutTiles 37 = .ok (.aload_n 0, 1) := by decide +kernel
theorem dX0_cutTiles_38 : decode cX0_cutTiles 38 = .ok (.getfield 21, 3) := by decide +kernel
theorem dX0_cutTiles_41 : decode cX0_cutTiles 41 = .ok (.if_icmp .ge 23, 3) := by decide +kernel
theorem dX0_cutTiles_44 : decode cX0_cutTiles 44 = .ok (.aload_n 0, 1) := by decide +kernel
theorem dX0_cutTiles_45 : decode cX0_cutTiles 45 = .ok (.iload_n 2, 1) := by decide +kernel
theorem dX0_cutTiles_46 : decode cX0_cutTiles 46 = .ok (.iconst 1, 1) := by decide +kernel
theorem dX0_cutTiles_47 : decode cX0_cutTiles 47 = .ok (.aload_n 1, 1) := by decide +kernel
theorem dX0_cutTiles_48 : decode cX0_cutTiles 48 = .ok (.invokevirtual 76, 3) := by decide +kernel
theorem dX0_cutTiles_51 : decode cX0_cutTiles 51 = .ok (.aload_n 0, 1) := by decide +kernel
theorem dX0_cutTiles_52 : decode cX0_cutTiles 52 = .ok (.iload_n 2, 1) := by decide +kernel
theorem dX0_cutTiles_53 : decode cX0_cutTiles 53 = .ok (.iconst 2, 1) := by decide +kernel
theorem dX0_cutTiles_54 : decode cX0_cutTiles 54 = .ok (.aload_n 1, 1) := by decide +kernel
theorem dX0_cutTiles_55 : decode cX0_cutTiles 55 = .ok (.invokevirtual 76, 3) := by decide +kernel
theorem dX0_cutTiles_58 : decode cX0_cutTiles 58 = .ok (.iinc 2 1, 3) := by decide +kernel
theorem dX0_cutTiles_61 : decode cX0_cutTiles 61 = .ok (.goto (-25), 3) := by decide +kernel
theorem dX0_cutTiles_64 : decode cX0_cutTiles 64 = .ok (.iconst 0, 1) := by decide +kernel
theorem dX0_cutTiles_65 : decode cX0_cutTiles 65 = .ok (.istore_n 2, 1) := by decide +kernel
theorem dX0_cutTiles_66 : decode cX0_cutTiles 66 = .ok (.iload_n 2, 1) := by decide +kernel
theorem dX0_cutTiles_67 : decode cX0_cutTiles 67 = .ok (.aload_n 0, 1) := by decide +kernel
theorem dX0_cutTiles_68 : decode cX0_cutTiles 68 = .ok (.getfield 21, 3) := by decide +kernel
theorem dX0_cutTiles_71 : decode cX0_cutTiles 71 = .ok (.if_icmp .ge 14, 3) := by decide +kernel
theorem dX0_cutTiles_74 : decode cX0_cutTiles 74 = .ok (.aload_n 0, 1) := by decide +kernel
theorem dX0_cutTiles_75 : decode cX0_cutTiles 75 = .ok (.iload_n 2, 1) := by decide +kernel
theorem dX0_cutTiles_76 : decode cX0_cutTiles 76 = .ok (.invokevirtual 67, 3) := by decide +kernel
theorem dX0_cutTiles_79 : decode cX0_cutTiles 79 = .ok (.iinc 2 1, 3) := by decide +kernel
theorem dX0_cutTiles_82 : decode cX0_cutTiles 82 = .ok (.goto (-16), 3) := by decide +kernel
theorem dX0_cutTiles_85 : decode cX0_cutTiles 85 = .ok (.return_, 1) := by decide +kernel
set_option maxRecDepth 20000 in
theorem ggX0_cutSide_X0_neighbor : GoodIn wsX0_cutSide wsX0_neighbor := goodIn_r _ [6, 7, 8, 9, 10, 5, 11, 12, 24, 25, 26, 27, 28, 29, 30, 31] (by decide +kernel) (by decide +kernel)
set_option maxRecDepth 20000 in
theorem gX0_cutSide_X0_neighbor : GoodIn wsX0_cutSide (wsV RX0 80 RX0 yX0_neighbor wsX0_neighbor) := goodIn_app (goodIn_of _ (by decide +kernel)) ggX0_cutSide_X0_neighbor
set_option maxRecDepth 20000 in
theorem ggX0_cutSide_X1_next : GoodIn wsX0_cutSide wsX1_next := goodIn_r _ [17, 18, 19, 20, 32, 33, 34] (by decide +kernel) (by decide +kernel)
set_option maxRecDepth 20000 in
theorem gX0_cutSide_X1_next : GoodIn wsX0_cutSide (wsV RX0 83 RX1 yX1_next wsX1_next) := goodIn_app (goodIn_of _ (by decide +kernel)) ggX0_cutSide_X1_next
set_option maxRecDepth 20000 in
theorem ggX0_cutSide_X6_opposite : GoodIn wsX0_cutSide wsX6_opposite := goodIn_r _ [23] (by decide +kernel) (by decide +kernel)
set_option maxRecDepth 20000 in
theorem gX0_cutSide_X6_opposite_n88 : GoodIn wsX0_cutSide (wsX6_opposite) := ggX0_cutSide_X6_opposite
theorem dX0_cutSide_0 : decode cX0_cutSide 0 = .ok (.aload_n 0, 1) := by decide +kernel
theorem dX0_cutSide_1 : decode cX0_cutSide 1 = .ok (.iload_n 1, 1) := by decide +kernel
theorem dX0_cutSide_2 : decode cX0_cutSide 2 = .ok (.iload_n 2, 1) := by decide +kernel
theorem dX0_cutSide_3 : decode cX0_cutSide 3 = .ok (.invokevirtual 80, 3) := by decide +kernel
theorem dX0_cutSide_6 : decode cX0_cutSide 6 = .ok (.istore 4, 2) := by decide +kernel
theorem dX0_cutSide_8 : decode cX0_cutSide 8 = .ok (.iload 4, 2) := by decide +kernel
theorem dX0_cutSide_10 : decode cX0_cutSide 10 = .ok (.iconst (-1), 1) := by decide +kernel
theorem dX0_cutSide_11 : decode cX0_cutSide 11 = .ok (.if_icmp .ne 4, 3) := by decide +kernel
theorem dX0_cutSide_14 : decode cX0_cutSide 14 = .ok (.return_, 1) := by decide +kernel
theorem dX0_cutSide_15 : decode cX0_cutSide 15 = .ok (.aload_n 3, 1) := by decide +kernel
theorem dX0_cutSide_16 : decode cX0_cutSide 16 = .ok (.invokevirtual 83, 3) := by decide +kernel
theorem dX0_cutSide_19 : decode cX0_cutSide 19 = .ok (.istore 5, 2) := by decide +kernel
theorem dX0_cutSide_21 : decode cX0_cutSide 21 = .ok (.aload_n 3, 1) := by decide +kernel
theorem dX0_cutSide_22 : decode cX0_cutSide 22 = .ok (.invokevirtual 83, 3) := by decide +kernel
theorem dX0_cutSide_25 : decode cX0_cutSide 25 = .ok (.istore 6, 2) := by decide +kernel
theorem dX0_cutSide_27 : decode cX0_cutSide 27 = .ok (.iload 5, 2) := by decide +kernel
theorem dX0_cutSide_29 : decode cX0_cutSide 29 = .ok (.iload 6, 2) := by decide +kernel
theorem dX0_cutSide_31 : decode cX0_cutSide 31 = .ok (.bipush 16, 2) := by decide +kernel
theorem dX0_cutSide_33 : decode cX0_cutSide 33 = .ok (.ishl, 1) := by decide +kernel
theorem dX0_cutSide_34 : decode cX0_cutSide 34 = .ok (.ior, 1) := by decide +kernel
theorem dX0_cutSide_35 : decode cX0_cutSide 35 = .ok (.istore 7, 2) := by decide +kernel
theorem dX0_cutSide_37 : decode cX0_cutSide 37 = .ok (.aload_n 0, 1) := by decide +kernel
theorem dX0_cutSide_38 : decode cX0_cutSide 38 = .ok (.getfield 34, 3) := by decide +kernel
theorem dX0_cutSide_41 : decode cX0_cutSide 41 = .ok (.bipush 8, 2) := by decide +kernel
theorem dX0_cutSide_43 : decode cX0_cutSide 43 = .ok (.iload_n 1, 1) := by decide +kernel
theorem dX0_cutSide_44 : decode cX0_cutSide 44 = .ok (.imul, 1) := by decide +kernel
theorem dX0_cutSide_45 : decode cX0_cutSide 45 = .ok (.dup2, 1) := by decide +kernel
theorem dX0_cutSide_46 : decode cX0_cutSide 46 = .ok (.iaload, 1) := by decide +kernel
theorem dX0_cutSide_47 : decode cX0_cutSide 47 = .ok (.iload 7, 2) := by decide +kernel
theorem dX0_cutSide_49 : decode cX0_cutSide 49 = .ok (.iconst 4, 1) := by decide +kernel
theorem dX0_cutSide_50 : decode cX0_cutSide 50 = .ok (.iload_n 2, 1) := by decide +kernel
theorem dX0_cutSide_51 : decode cX0_cutSide 51 = .ok (.imul, 1) := by decide +kernel
theorem dX0_cutSide_52 : decode cX0_cutSide 52 = .ok (.ishl, 1) := by decide +kernel
theorem dX0_cutSide_53 : decode cX0_cutSide 53 = .ok (.ior, 1) := by decide +kernel
theorem dX0_cutSide_54 : decode cX0_cutSide 54 = .ok (.iastore, 1) := by decide +kernel
theorem dX0_cutSide_55 : decode cX0_cutSide 55 = .ok (.aload_n 0, 1) := by decide +kernel
theorem dX0_cutSide_56 : decode cX0_cutSide 56 = .ok (.getfield 34, 3) := by decide +kernel
theorem dX0_cutSide_59 : decode cX0_cutSide 59 = .ok (.bipush 8, 2) := by decide +kernel
theorem dX0_cutSide_61 : decode cX0_cutSide 61 = .ok (.iload 4, 2) := by decide +kernel
theorem dX0_cutSide_63 : decode cX0_cutSide 63 = .ok (.imul, 1) := by decide +kernel
theorem dX0_cutSide_64 : decode cX0_cutSide 64 = .ok (.dup2, 1) := by decide +kernel
theorem dX0_cutSide_65 : decode cX0_cutSide 65 = .ok (.iaload, 1) := by decide +kernel
theorem dX0_cutSide_66 : decode cX0_cutSide 66 = .ok (.iload 7, 2) := by decide +kernel
theorem dX0_cutSide_68 : decode cX0_cutSide 68 = .ok (.iconst 4, 1) := by decide +kernel
theorem dX0_cutSide_69 : decode cX0_cutSide 69 = .ok (.iload_n 2, 1) := by decide +kernel
theorem dX0_cutSide_70 : decode cX0_cutSide 70 = .ok (.invokestatic 88, 3) := by decide +kernel
theorem dX0_cutSide_73 : decode cX0_cutSide 73 = .ok (.imul, 1) := by decide +kernel
theorem dX0_cutSide_74 : decode cX0_cutSide 74 = .ok (.ishl, 1) := by decide +kernel
theorem dX0_cutSide_75 : decode cX0_cutSide 75 = .ok (.ior, 1) := by decide +kernel
theorem dX0_cutSide_76 : decode cX0_cutSide 76 = .ok (.iastore, 1) := by decide +kernel
theorem dX0_cutSide_77 : decode cX0_cutSide 77 = .ok (.return_, 1) := by decide +kernel
set_option maxRecDepth 20000 in
theorem ggX0_faceOf_X6_colorsAt : GoodIn wsX0_faceOf wsX6_colorsAt := goodIn_r _ [4, 5] (by decide +kernel) (by decide +kernel)
set_option maxRecDepth 20000 in
theorem gX0_faceOf_X6_colorsAt_n91 : GoodIn wsX0_faceOf (wsX6_colorsAt) := ggX0_faceOf_X6_colorsAt
theorem dX0_faceOf_0 : decode cX0_faceOf 0 = .ok (.aload_n 0, 1) := by decide +kernel
theorem dX0_faceOf_1 : decode cX0_faceOf 1 = .ok (.getfield 34, 3) := by decide +kernel
theorem dX0_faceOf_4 : decode cX0_faceOf 4 = .ok (.bipush 8, 2) := by decide +kernel
theorem dX0_faceOf_6 : decode cX0_faceOf 6 = .ok (.iload_n 1, 1) := by decide +kernel
theorem dX0_faceOf_7 : decode cX0_faceOf 7 = .ok (.imul, 1) := by decide +kernel
theorem dX0_faceOf_8 : decode cX0_faceOf 8 = .ok (.iconst 4, 1) := by decide +kernel
theorem dX0_faceOf_9 : decode cX0_faceOf 9 = .ok (.iload_n 2, 1) := by decide +kernel
theorem dX0_faceOf_10 : decode cX0_faceOf 10 = .ok (.imul, 1) := by decide +kernel
theorem dX0_faceOf_11 : decode cX0_faceOf 11 = .ok (.iadd, 1) := by decide +kernel
theorem dX0_faceOf_12 : decode cX0_faceOf 12 = .ok (.iaload, 1) := by decide +kernel
theorem dX0_faceOf_13 : decode cX0_faceOf 13 = .ok (.istore_n 3, 1) := by decide +kernel
theorem dX0_faceOf_14 : decode cX0_faceOf 14 = .ok (.iconst 0, 1) := by decide +kernel
theorem dX0_faceOf_15 : decode cX0_faceOf 15 = .ok (.istore 4, 2) := by decide +kernel
theorem dX0_faceOf_17 : decode cX0_faceOf 17 = .ok (.iconst 0, 1) := by decide +kernel
theorem dX0_faceOf_18 : decode cX0_faceOf 18 = .ok (.istore 5, 2) := by decide +kernel
theorem dX0_faceOf_20 : decode cX0_faceOf 20 = .ok (.iload 5, 2) := by decide +kernel
theorem dX0_faceOf_22 : decode cX0_faceOf 22 = .ok (.iconst 4, 1) := by decide +kernel
theorem dX0_faceOf_23 : decode cX0_faceOf 23 = .ok (.if_icmp .ge 26, 3) := by decide +kernel
theorem dX0_faceOf_26 : decode cX0_faceOf 26 = .ok (.bipush 10, 2) := by decide +kernel
theorem dX0_faceOf_28 : decode cX0_faceOf 28 = .ok (.iload 4, 2) := by decide +kernel
theorem dX0_faceOf_30 : decode cX0_faceOf 30 = .ok (.imul, 1) := by decide +kernel
theorem dX0_faceOf_31 : decode cX0_faceOf 31 = .ok (.iload_n 3, 1) := by decide +kernel
theorem dX0_faceOf_32 : decode cX0_faceOf 32 = .ok (.iload 5, 2) := by decide +kernel
theorem dX0_faceOf_34 : decode cX0_faceOf 34 = .ok (.invokestatic 91, 3) := by decide +kernel
theorem dX0_faceOf_37 : decode cX0_faceOf 37 = .ok (.bipush 15, 2) := by decide +kernel
theorem dX0_faceOf_39 : decode cX0_faceOf 39 = .ok (.iand, 1) := by decide +kernel
theorem dX0_faceOf_40 : decode cX0_faceOf 40 = .ok (.iadd, 1) := by decide +kernel
theorem dX0_faceOf_41 : decode cX0_faceOf 41 = .ok (.istore 4, 2) := by decide +kernel
theorem dX0_faceOf_43 : decode cX0_faceOf 43 = .ok (.iinc 5 1, 3) := by decide +kernel
theorem dX0_faceOf_46 : decode cX0_faceOf 46 = .ok (.goto (-26), 3) := by decide +kernel
theorem dX0_faceOf_49 : decode cX0_faceOf 49 = .ok (.iload 4, 2) := by decide +kernel
theorem dX0_faceOf_51 : decode cX0_faceOf 51 = .ok (.ireturn, 1) := by decide +kernel
theorem dX0_lowestLike_0 : decode cX0_lowestLike 0 = .ok (.aload_n 0, 1) := by decide +kernel
theorem dX0_lowestLike_1 : decode cX0_lowestLike 1 = .ok (.getfield 34, 3) := by decide +kernel
theorem dX0_lowestLike_4 : decode cX0_lowestLike 4 = .ok (.bipush 8, 2) := by decide +kernel
theorem dX0_lowestLike_6 : decode cX0_lowestLike 6 = .ok (.iload_n 1, 1) := by decide +kernel
theorem dX0_lowestLike_7 : decode cX0_lowestLike 7 = .ok (.imul, 1) := by decide +kernel
theorem dX0_lowestLike_8 : decode cX0_lowestLike 8 = .ok (.iaload, 1) := by decide +kernel
theorem dX0_lowestLike_9 : decode cX0_lowestLike 9 = .ok (.istore_n 2, 1) := by decide +kernel
theorem dX0_lowestLike_10 : decode cX0_lowestLike 10 = .ok (.iconst 0, 1) := by decide +kernel
theorem dX0_lowestLike_11 : decode cX0_lowestLike 11 = .ok (.istore_n 3, 1) := by decide +kernel
theorem dX0_lowestLike_12 : decode cX0_lowestLike 12 = .ok (.iload_n 3, 1) := by decide +kernel
theorem dX0_lowestLike_13 : decode cX0_lowestLike 13 = .ok (.bipush 8, 2) := by decide +kernel
theorem dX0_lowestLike_15 : decode cX0_lowestLike 15 = .ok (.iload_n 1, 1) := by decide +kernel
theorem dX0_lowestLike_16 : decode cX0_lowestLike 16 = .ok (.imul, 1) := by decide +kernel
theorem dX0_lowestLike_17 : decode cX0_lowestLike 17 = .ok (.if_icmp .ge 24, 3) := by decide +kernel
theorem dX0_lowestLike_20 : decode cX0_lowestLike 20 = .ok (.aload_n 0, 1) := by decide +kernel
theorem dX0_lowestLike_21 : decode cX0_lowestLike 21 = .ok (.getfield 34, 3) := by decide +kernel
theorem dX0_lowestLike_24 : decode cX0_lowestLike 24 = .ok (.iload_n 3, 1) := by decide +kernel
theorem dX0_lowestLike_25 : decode cX0_lowestLike 25 = .ok (.iaload, 1) := by decide +kernel
theorem dX0_lowestLike_26 : decode cX0_lowestLike 26 = .ok (.iload_n 2, 1) := by decide +kernel
theorem dX0_lowestLike_27 : decode cX0_lowestLike 27 = .ok (.if_icmp .ne 8, 3) := by decide +kernel
theorem dX0_lowestLike_30 : decode cX0_lowestLike 30 = .ok (.iload_n 3, 1) := by decide +kernel
theorem dX0_lowestLike_31 : decode cX0_lowestLike 31 = .ok (.bipush 8, 2) := by decide +kernel
theorem dX0_lowestLike_33 : decode cX0_lowestLike 33 = .ok (.idiv, 1) := by decide +kernel
theorem dX0_lowestLike_34 : decode cX0_lowestLike 34 = .ok (.ireturn, 1) := by decide +kernel
theorem dX0_lowestLike_35 : decode cX0_lowestLike 35 = .ok (.iinc 3 1, 3) := by decide +kernel
theorem dX0_lowestLike_38 : decode cX0_lowestLike 38 = .ok (.goto (-26), 3) := by decide +kernel
theorem dX0_lowestLike_41 : decode cX0_lowestLike 41 = .ok (.iload_n 1, 1) := by decide +kernel
theorem dX0_lowestLike_42 : decode cX0_lowestLike 42 = .ok (.ireturn, 1) := by decide +kernel
set_option maxRecDepth 20000 in
theorem ggX0_pairsAlike_X0_cells : GoodIn wsX0_pairsAlike wsX0_cells := goodIn_r _ [5, 6, 7, 32, 33, 34, 35, 36, 37, 38, 39] (by decide +kernel) (by decide +kernel)
set_option maxRecDepth 20000 in
theorem gX0_pairsAlike_X0_cells : GoodIn wsX0_pairsAlike (wsV RX0 43 RX0 yX0_cells wsX0_cells) := goodIn_app (goodIn_of _ (by decide +kernel)) ggX0_pairsAlike_X0_cells
set_option maxRecDepth 20000 in
theorem ggX0_pairsAlike_X0_isAlike : GoodIn wsX0_pairsAlike wsX0_isAlike := goodIn_r _ [11, 12, 13, 14, 4, 15, 7, 1, 2, 3, 5, 6, 16, 17, 18, 19, 20, 21, 22, 23, 24, 25, 26, 27, 28, 29, 30, 31, 32, 33, 34, 35, 36, 37, 38, 39] (by decide +kernel) (by decide +kernel)
set_option maxRecDepth 20000 in
theorem gX0_pairsAlike_X0_isAlike : GoodIn wsX0_pairsAlike (wsV RX0 94 RX0 yX0_isAlike wsX0_isAlike) := goodIn_app (goodIn_of _ (by decide +kernel)) ggX0_pairsAlike_X0_isAlike
theorem dX0_pairsAlike_0 : decode cX0_pairsAlike 0 = .ok (.iconst 0, 1) := by decide +kernel
theorem dX0_pairsAlike_1 : decode cX0_pairsAlike 1 = .ok (.istore_n 2, 1) := by decide +kernel
theorem dX0_pairsAlike_2 : decode cX0_pairsAlike 2 = .ok (.iconst 0, 1) := by decide +kernel
theorem dX0_pairsAlike_3 : decode cX0_pairsAlike 3 = .ok (.istore_n 3, 1) := by decide +kernel
theorem dX0_pairsAlike_4 : decode cX0_pairsAlike 4 = .ok (.iload_n 3, 1) := by decide +kernel
theorem dX0_pairsAlike_5 : decode cX0_pairsAlike 5 = .ok (.aload_n 0, 1) := by decide +kernel
theorem dX0_pairsAlike_6 : decode cX0_pairsAlike 6 = .ok (.invokevirtual 43, 3) := by decide +kernel
theorem dX0_pairsAlike_9 : decode cX0_pairsAlike 9 = .ok (.if_icmp .ge 35, 3) := by decide +kernel
theorem dX0_pairsAlike_12 : decode cX0_pairsAlike 12 = .ok (.aload_n 0, 1) := by decide +kernel
theorem dX0_pairsAlike_13 : decode cX0_pairsAlike 13 = .ok (.iload_n 3, 1) := by decide +kernel
theorem dX0_pairsAlike_14 : decode cX0_pairsAlike 14 = .ok (.iconst 1, 1) := by decide +kernel
theorem dX0_pairsAlike_15 : decode cX0_pairsAlike 15 = .ok (.iload_n 1, 1) := by decide +kernel
theorem dX0_pairsAlike_16 : decode cX0_pairsAlike 16 = .ok (.invokevirtual 94, 3) := by decide +kernel
theorem dX0_pairsAlike_19 : decode cX0_pairsAlike 19 = .ok (.ifCond .eq 6, 3) := by decide +kernel
theorem dX0_pairsAlike_22 : decode cX0_pairsAlike 22 = .ok (.iinc 2 1, 3) := by decide +kernel
theorem dX0_pairsAlike_25 : decode cX0_pairsAlike 25 = .ok (.aload_n 0, 1) := by decide +kernel
theorem dX0_pairsAlike_26 : decode cX0_pairsAlike 26 = .ok (.iload_n 3, 1) := by decide +kernel
theorem dX0_pairsAlike_27 : decode cX0_pairsAlike 27 = .ok (.iconst 2, 1) := by decide +kernel
theorem dX0_pairsAlike_28 : decode cX0_pairsAlike 28 = .ok (.iload_n 1, 1) := by decide +kernel
theorem dX0_pairsAlike_29 : decode cX0_pairsAlike 29 = .ok (.invokevirtual 94, 3) := by decide +kernel
theorem dX0_pairsAlike_32 : decode cX0_pairsAlike 32 = .ok (.ifCond .eq 6, 3) := by decide +kernel
theorem dX0_pairsAlike_35 : decode cX0_pairsAlike 35 = .ok (.iinc 2 1, 3) := by decide +kernel
theorem dX0_pairsAlike_38 : decode cX0_pairsAlike 38 = .ok (.iinc 3 1, 3) := by decide +kernel
theorem dX0_pairsAlike_41 : decode cX0_pairsAlike 41 = .ok (.goto (-37), 3) := by decide +kernel
theorem dX0_pairsAlike_44 : decode cX0_pairsAlike 44 = .ok (.iload_n 2, 1) := by decide +kernel
theorem dX0_pairsAlike_45 : decode cX0_pairsAlike 45 = .ok (.ireturn, 1) := by decide +kernel
set_option maxRecDepth 20000 in
theorem ggX0_isAlike_X0_neighbor : GoodIn wsX0_isAlike wsX0_neighbor := goodIn_r _ [5, 6, 7, 8, 9, 4, 10, 11, 28, 29, 30, 31, 32, 33, 34, 35] (by decide +kernel) (by decide +kernel)
set_option maxRecDepth 20000 in
theorem gX0_isAlike_X0_neighbor : GoodIn wsX0_isAlike (wsV RX0 80 RX0 yX0_neighbor wsX0_neighbor) := goodIn_app (goodIn_of _ (by decide +kernel)) ggX0_isAlike_X0_neighbor
set_option maxRecDepth 20000 in
theorem ggX0_isAlike_X0_isEmpty : GoodIn wsX0_isAlike wsX0_isEmpty := goodIn_r _ [15, 16, 28, 29, 30, 31, 32, 33, 34, 35] (by decide +kernel) (by decide +kernel)
set_option maxRecDepth 20000 in
theorem gX0_isAlike_X0_isEmpty : GoodIn wsX0_isAlike (wsV RX0 47 RX0 yX0_isEmpty wsX0_isEmpty) := goodIn_app (goodIn_of _ (by decide +kernel)) ggX0_isAlike_X0_isEmpty
set_option maxRecDepth 20000 in
theorem ggX0_isAlike_X0_lookIn : GoodIn wsX0_isAlike wsX0_lookIn := goodIn_r _ [20, 21, 16, 28, 29, 30, 31, 32, 33, 34, 35] (by decide +kernel) (by decide +kernel)
set_option maxRecDepth 20000 in
theorem gX0_isAlike_X0_lookIn : GoodIn wsX0_isAlike (wsV RX0 98 RX0 yX0_lookIn wsX0_lookIn) := goodIn_app (goodIn_of _ (by decide +kernel)) ggX0_isAlike_X0_lookIn
set_option maxRecDepth 20000 in
theorem ggX0_isAlike_X6_colorsAt : GoodIn wsX0_isAlike wsX6_colorsAt := goodIn_r _ [24, 25] (by decide +kernel) (by decide +kernel)
set_option maxRecDepth 20000 in
theorem gX0_isAlike_X6_colorsAt_n91 : GoodIn wsX0_isAlike (wsX6_colorsAt) := ggX0_isAlike_X6_colorsAt
set_option maxRecDepth 20000 in
theorem ggX0_isAlike_X6_opposite : GoodIn wsX0_isAlike wsX6_opposite := goodIn_r _ [27] (by decide +kernel) (by decide +kernel)
set_option maxRecDepth 20000 in
theorem gX0_isAlike_X6_opposite_n88 : GoodIn wsX0_isAlike (wsX6_opposite) := ggX0_isAlike_X6_opposite
theorem dX0_isAlike_0 : decode cX0_isAlike 0 = .ok (.aload_n 0, 1) := by decide +kernel
theorem dX0_isAlike_1 : decode cX0_isAlike 1 = .ok (.iload_n 1, 1) := by decide +kernel
theorem dX0_isAlike_2 : decode cX0_isAlike 2 = .ok (.iload_n 2, 1) := by decide +kernel
theorem dX0_isAlike_3 : decode cX0_isAlike 3 = .ok (.invokevirtual 80, 3) := by decide +kernel
theorem dX0_isAlike_6 : decode cX0_isAlike 6 = .ok (.istore 4, 2) := by decide +kernel
theorem dX0_isAlike_8 : decode cX0_isAlike 8 = .ok (.iload 4, 2) := by decide +kernel
theorem dX0_isAlike_10 : decode cX0_isAlike 10 = .ok (.iconst (-1), 1) := by decide +kernel
theorem dX0_isAlike_11 : decode cX0_isAlike 11 = .ok (.if_icmp .eq 20, 3) := by decide +kernel
theorem dX0_isAlike_14 : decode cX0_isAlike 14 = .ok (.aload_n 0, 1) := by decide +kernel
theorem dX0_isAlike_15 : decode cX0_isAlike 15 = .ok (.iload_n 1, 1) := by decide +kernel
theorem dX0_isAlike_16 : decode cX0_isAlike 16 = .ok (.invokevirtual 47, 3) := by decide +kernel
theorem dX0_isAlike_19 : decode cX0_isAlike 19 = .ok (.ifCond .ne 12, 3) := by decide +kernel
theorem dX0_isAlike_22 : decode cX0_isAlike 22 = .ok (.aload_n 0, 1) := by decide +kernel
theorem dX0_isAlike_23 : decode cX0_isAlike 23 = .ok (.iload 4, 2) := by decide +kernel
theorem dX0_isAlike_25 : decode cX0_isAlike 25 = .ok (.invokevirtual 47, 3) := by decide +kernel
theorem dX0_isAlike_28 : decode cX0_isAlike 28 = .ok (.ifCond .eq 5, 3) := by decide +kernel
theorem dX0_isAlike_31 : decode cX0_isAlike 31 = .ok (.iconst 0, 1) := by decide +kernel
theorem dX0_isAlike_32 : decode cX0_isAlike 32 = .ok (.ireturn, 1) := by decide +kernel
theorem dX0_isAlike_33 : decode cX0_isAlike 33 = .ok (.aload_n 0, 1) := by decide +kernel
theorem dX0_isAlike_34 : decode cX0_isAlike 34 = .ok (.iload_n 1, 1) := by decide +kernel
theorem dX0_isAlike_35 : decode cX0_isAlike 35 = .ok (.invokevirtual 98, 3) := by decide +kernel
theorem dX0_isAlike_38 : decode cX0_isAlike 38 = .ok (.iload_n 2, 1) := by decide +kernel
theorem dX0_isAlike_39 : decode cX0_isAlike 39 = .ok (.invokestatic 91, 3) := by decide +kernel
theorem dX0_isAlike_42 : decode cX0_isAlike 42 = .ok (.istore 5, 2) := by decide +kernel
theorem dX0_isAlike_44 : decode cX0_isAlike 44 = .ok (.aload_n 0, 1) := by decide +kernel
theorem dX0_isAlike_45 : decode cX0_isAlike 45 = .ok (.iload 4, 2) := by decide +kernel
theorem dX0_isAlike_47 : decode cX0_isAlike 47 = .ok (.invokevirtual 98, 3) := by decide +kernel
theorem dX0_isAlike_50 : decode cX0_isAlike 50 = .ok (.iload_n 2, 1) := by decide +kernel
theorem dX0_isAlike_51 : decode cX0_isAlike 51 = .ok (.invokestatic 88, 3) := by decide +kernel
theorem dX0_isAlike_54 : decode cX0_isAlike 54 = .ok (.invokestatic 91, 3) := by decide +kernel
theorem dX0_isAlike_57 : decode cX0_isAlike 57 = .ok (.istore 6, 2) := by decide +kernel
theorem dX0_isAlike_59 : decode cX0_isAlike 59 = .ok (.iload 5, 2) := by decide +kernel
theorem dX0_isAlike_61 : decode cX0_isAlike 61 = .ok (.iload 6, 2) := by decide +kernel
theorem dX0_isAlike_63 : decode cX0_isAlike 63 = .ok (.ixor, 1) := by decide +kernel
theorem dX0_isAlike_64 : decode cX0_isAlike 64 = .ok (.iload_n 3, 1) := by decide +kernel
theorem dX0_isAlike_65 : decode cX0_isAlike 65 = .ok (.iand, 1) := by decide +kernel
theorem dX0_isAlike_66 : decode cX0_isAlike 66 = .ok (.ifCond .ne 7, 3) := by decide +kernel
theorem dX0_isAlike_69 : decode cX0_isAlike 69 = .ok (.iconst 1, 1) := by decide +kernel
theorem dX0_isAlike_70 : decode cX0_isAlike 70 = .ok (.goto 4, 3) := by decide +kernel
theorem dX0_isAlike_73 : decode cX0_isAlike 73 = .ok (.iconst 0, 1) := by decide +kernel
theorem dX0_isAlike_74 : decode cX0_isAlike 74 = .ok (.ireturn, 1) := by decide +kernel
theorem dX1_init_0 : decode cX1_init 0 = .ok (.aload_n 0, 1) := by decide +kernel
theorem dX1_init_1 : decode cX1_init 1 = .ok (.invokespecial 1, 3) := by decide +kernel
theorem dX1_init_4 : decode cX1_init 4 = .ok (.aload_n 0, 1) := by decide +kernel
theorem dX1_init_5 : decode cX1_init 5 = .ok (.iconst 1, 1) := by decide +kernel
theorem dX1_init_6 : decode cX1_init 6 = .ok (.putfield 7, 3) := by decide +kernel
theorem dX1_init_9 : decode cX1_init 9 = .ok (.aload_n 0, 1) := by decide +kernel
theorem dX1_init_10 : decode cX1_init 10 = .ok (.iconst 1, 1) := by decide +kernel
theorem dX1_init_11 : decode cX1_init 11 = .ok (.putfield 13, 3) := by decide +kernel
theorem dX1_init_14 : decode cX1_init 14 = .ok (.aload_n 0, 1) := by decide +kernel
theorem dX1_init_15 : decode cX1_init 15 = .ok (.iconst 1, 1) := by decide +kernel
theorem dX1_init_16 : decode cX1_init 16 = .ok (.putfield 16, 3) := by decide +kernel
theorem dX1_init_19 : decode cX1_init 19 = .ok (.return_, 1) := by decide +kernel
theorem dX1_start_0 : decode cX1_start 0 = .ok (.aload_n 0, 1) := by decide +kernel
theorem dX1_start_1 : decode cX1_start 1 = .ok (.iload_n 1, 1) := by decide +kernel
theorem dX1_start_2 : decode cX1_start 2 = .ok (.putfield 7, 3) := by decide +kernel
theorem dX1_start_5 : decode cX1_start 5 = .ok (.aload_n 0, 1) := by decide +kernel
theorem dX1_start_6 : decode cX1_start 6 = .ok (.iload_n 2, 1) := by decide +kernel
theorem dX1_start_7 : decode cX1_start 7 = .ok (.iconst 1, 1) := by decide +kernel
theorem dX1_start_8 : decode cX1_start 8 = .ok (.if_icmp .ge 7, 3) := by decide +kernel
theorem dX1_start_11 : decode cX1_start 11 = .ok (.iconst 1, 1) := by decide +kernel
theorem dX1_start_12 : decode cX1_start 12 = .ok (.goto 4, 3) := by decide +kernel
theorem dX1_start_15 : decode cX1_start 15 = .ok (.iload_n 2, 1) := by decide +kernel
theorem dX1_start_16 : decode cX1_start 16 = .ok (.putfield 13, 3) := by decide +kernel
theorem dX1_start_19 : decode cX1_start 19 = .ok (.aload_n 0, 1) := by decide +kernel
theorem dX1_start_20 : decode cX1_start 20 = .ok (.iload_n 1, 1) := by decide +kernel
theorem dX1_start_21 : decode cX1_start 21 = .ok (.putfield 16, 3) := by decide +kernel
theorem dX1_start_24 : decode cX1_start 24 = .ok (.return_, 1) := by decide +kernel
theorem dX1_next_0 : decode cX1_next 0 = .ok (.iconst 1, 1) := by decide +kernel
theorem dX1_next_1 : decode cX1_next 1 = .ok (.aload_n 0, 1) := by decide +kernel
theorem dX1_next_2 : decode cX1_next 2 = .ok (.getfield 16, 3) := by decide +kernel
theorem dX1_next_5 : decode cX1_next 5 = .ok (.bipush 10, 2) := by decide +kernel
theorem dX1_next_7 : decode cX1_next 7 = .ok (.irem, 1) := by decide +kernel
theorem dX1_next_8 : decode cX1_next 8 = .ok (.aload_n 0, 1) := by decide +kernel
theorem dX1_next_9 : decode cX1_next 9 = .ok (.getfield 13, 3) := by decide +kernel
theorem dX1_next_12 : decode cX1_next 12 = .ok (.irem, 1) := by decide +kernel
theorem dX1_next_13 : decode cX1_next 13 = .ok (.iadd, 1) := by decide +kernel
theorem dX1_next_14 : decode cX1_next 14 = .ok (.istore_n 1, 1) := by decide +kernel
theorem dX1_next_15 : decode cX1_next 15 = .ok (.aload_n 0, 1) := by decide +kernel
theorem dX1_next_16 : decode cX1_next 16 = .ok (.aload_n 0, 1) := by decide +kernel
theorem dX1_next_17 : decode cX1_next 17 = .ok (.getfield 16, 3) := by decide +kernel
theorem dX1_next_20 : decode cX1_next 20 = .ok (.bipush 10, 2) := by decide +kernel
theorem dX1_next_22 : decode cX1_next 22 = .ok (.idiv, 1) := by decide +kernel
theorem dX1_next_23 : decode cX1_next 23 = .ok (.putfield 16, 3) := by decide +kernel
theorem dX1_next_26 : decode cX1_next 26 = .ok (.aload_n 0, 1) := by decide +kernel
theorem dX1_next_27 : decode cX1_next 27 = .ok (.getfield 16, 3) := by decide +kernel
theorem dX1_next_30 : decode cX1_next 30 = .ok (.ifCond .ne 11, 3) := by decide +kernel
theorem dX1_next_33 : decode cX1_next 33 = .ok (.aload_n 0, 1) := by decide +kernel
theorem dX1_next_34 : decode cX1_next 34 = .ok (.aload_n 0, 1) := by decide +kernel
theorem dX1_next_35 : decode cX1_next 35 = .ok (.getfield 7, 3) := by decide +kernel
theorem dX1_next_38 : decode cX1_next 38 = .ok (.putfield 16, 3) := by decide +kernel
theorem dX1_next_41 : decode cX1_next 41 = .ok (.iload_n 1, 1) := by decide +kernel
theorem dX1_next_42 : decode cX1_next 42 = .ok (.ireturn, 1) := by decide +kernel
set_option maxRecDepth 20000 in
theorem ggX2_init_X0_init : GoodIn wsX2_init wsX0_init := goodIn_r _ [11, 12, 2, 3, 13, 14, 15, 16, 17, 18, 19, 20, 21, 25, 26, 27, 28, 29, 30, 31, 32] (by decide +kernel) (by decide +kernel)
set_option maxRecDepth 20000 in
theorem gX2_init_X0_init_n24 : GoodIn wsX2_init (wsX0_init) := ggX2_init_X0_init
theorem dX2_init_0 : decode cX2_init 0 = .ok (.aload_n 0, 1) := by decide +kernel
theorem dX2_init_1 : decode cX2_init 1 = .ok (.invokespecial 3, 3) := by decide +kernel
theorem dX2_init_4 : decode cX2_init 4 = .ok (.aload_n 0, 1) := by decide +kernel
theorem dX2_init_5 : decode cX2_init 5 = .ok (.bipush 8, 2) := by decide +kernel
theorem dX2_init_7 : decode cX2_init 7 = .ok (.anewarray 9, 3) := by decide +kernel
theorem dX2_init_10 : decode cX2_init 10 = .ok (.putfield 11, 3) := by decide +kernel
theorem dX2_init_13 : decode cX2_init 13 = .ok (.aload_n 0, 1) := by decide +kernel
theorem dX2_init_14 : decode cX2_init 14 = .ok (.iconst 0, 1) := by decide +kernel
theorem dX2_init_15 : decode cX2_init 15 = .ok (.putfield 17, 3) := by decide +kernel
theorem dX2_init_18 : decode cX2_init 18 = .ok (.aload_n 0, 1) := by decide +kernel
theorem dX2_init_19 : decode cX2_init 19 = .ok (.iconst 0, 1) := by decide +kernel
theorem dX2_init_20 : decode cX2_init 20 = .ok (.putfield 21, 3) := by decide +kernel
theorem dX2_init_23 : decode cX2_init 23 = .ok (.iconst 0, 1) := by decide +kernel
theorem dX2_init_24 : decode cX2_init 24 = .ok (.istore_n 1, 1) := by decide +kernel
theorem dX2_init_25 : decode cX2_init 25 = .ok (.iload_n 1, 1) := by decide +kernel
theorem dX2_init_26 : decode cX2_init 26 = .ok (.bipush 8, 2) := by decide +kernel
theorem dX2_init_28 : decode cX2_init 28 = .ok (.if_icmp .ge 22, 3) := by decide +kernel
theorem dX2_init_31 : decode cX2_init 31 = .ok (.aload_n 0, 1) := by decide +kernel
theorem dX2_init_32 : decode cX2_init 32 = .ok (.getfield 11, 3) := by decide +kernel
theorem dX2_init_35 : decode cX2_init 35 = .ok (.iload_n 1, 1) := by decide +kernel
theorem dX2_init_36 : decode cX2_init 36 = .ok (.new 9, 3) := by decide +kernel
theorem dX2_init_39 : decode cX2_init 39 = .ok (.dup, 1) := by decide +kernel
theorem dX2_init_40 : decode cX2_init 40 = .ok (.invokespecial 24, 3) := by decide +kernel
theorem dX2_init_43 : decode cX2_init 43 = .ok (.aastore, 1) := by decide +kernel
theorem dX2_init_44 : decode cX2_init 44 = .ok (.iinc 1 1, 3) := by decide +kernel
theorem dX2_init_47 : decode cX2_init 47 = .ok (.goto (-22), 3) := by decide +kernel
theorem dX2_init_50 : decode cX2_init 50 = .ok (.return_, 1) := by decide +kernel
set_option maxRecDepth 20000 in
theorem ggX2_save_X0_copyFrom : GoodIn wsX2_save wsX0_copyFrom := goodIn_r _ [8, 9, 10, 11, 12, 13, 14, 15, 16, 17, 18, 19, 20, 24, 25, 26, 27, 28, 29, 30, 31] (by decide +kernel) (by decide +kernel)
set_option maxRecDepth 20000 in
theorem gX2_save_X0_copyFrom : GoodIn wsX2_save (wsV RX2 25 RX0 yX0_copyFrom wsX0_copyFrom) := goodIn_app (goodIn_of _ (by decide +kernel)) ggX2_save_X0_copyFrom
theorem dX2_save_0 : decode cX2_save 0 = .ok (.aload_n 0, 1) := by decide +kernel
theorem dX2_save_1 : decode cX2_save 1 = .ok (.getfield 21, 3) := by decide +kernel
theorem dX2_save_4 : decode cX2_save 4 = .ok (.bipush 8, 2) := by decide +kernel
theorem dX2_save_6 : decode cX2_save 6 = .ok (.if_icmp .lt 26, 3) := by decide +kernel
theorem dX2_save_9 : decode cX2_save 9 = .ok (.aload_n 0, 1) := by decide +kernel
theorem dX2_save_10 : decode cX2_save 10 = .ok (.aload_n 0, 1) := by decide +kernel
theorem dX2_save_11 : decode cX2_save 11 = .ok (.getfield 17, 3) := by decide +kernel
theorem dX2_save_14 : decode cX2_save 14 = .ok (.iconst 1, 1) := by decide +kernel
theorem dX2_save_15 : decode cX2_save 15 = .ok (.iadd, 1) := by decide +kernel
theorem dX2_save_16 : decode cX2_save 16 = .ok (.bipush 8, 2) := by decide +kernel
theorem dX2_save_18 : decode cX2_save 18 = .ok (.irem, 1) := by decide +kernel
theorem dX2_save_19 : decode cX2_save 19 = .ok (.putfield 17, 3) := by decide +kernel
theorem dX2_save_22 : decode cX2_save 22 = .ok (.aload_n 0, 1) := by decide +kernel
theorem dX2_save_23 : decode cX2_save 23 = .ok (.dup, 1) := by decide +kernel
theorem dX2_save_24 : decode cX2_save 24 = .ok (.getfield 21, 3) := by decide +kernel
theorem dX2_save_27 : decode cX2_save 27 = .ok (.iconst 1, 1) := by decide +kernel
theorem dX2_save_28 : decode cX2_save 28 = .ok (.isub, 1) := by decide +kernel
theorem dX2_save_29 : decode cX2_save 29 = .ok (.putfield 21, 3) := by decide +kernel
theorem dX2_save_32 : decode cX2_save 32 = .ok (.aload_n 0, 1) := by decide +kernel
theorem dX2_save_33 : decode cX2_save 33 = .ok (.getfield 11, 3) := by decide +kernel
theorem dX2_save_36 : decode cX2_save 36 = .ok (.aload_n 0, 1) := by decide +kernel
theorem dX2_save_37 : decode cX2_save 37 = .ok (.getfield 17, 3) := by decide +kernel
theorem dX2_save_40 : decode cX2_save 40 = .ok (.aload_n 0, 1) := by decide +kernel
theorem dX2_save_41 : decode cX2_save 41 = .ok (.getfield 21, 3) := by decide +kernel
theorem dX2_save_44 : decode cX2_save 44 = .ok (.iadd, 1) := by decide +kernel
theorem dX2_save_45 : decode cX2_save 45 = .ok (.bipush 8, 2) := by decide +kernel
theorem dX2_save_47 : decode cX2_save 47 = .ok (.irem, 1) := by decide +kernel
theorem dX2_save_48 : decode cX2_save 48 = .ok (.aaload, 1) := by decide +kernel
theorem dX2_save_49 : decode cX2_save 49 = .ok (.aload_n 1, 1) := by decide +kernel
theorem dX2_save_50 : decode cX2_save 50 = .ok (.invokevirtual 25, 3) := by decide +kernel
theorem dX2_save_53 : decode cX2_save 53 = .ok (.aload_n 0, 1) := by decide +kernel
theorem dX2_save_54 : decode cX2_save 54 = .ok (.dup, 1) := by decide +kernel
theorem dX2_save_55 : decode cX2_save 55 = .ok (.getfield 21, 3) := by decide +kernel
theorem dX2_save_58 : decode cX2_save 58 = .ok (.iconst 1, 1) := by decide +kernel
theorem dX2_save_59 : decode cX2_save 59 = .ok (.iadd, 1) := by decide +kernel
theorem dX2_save_60 : decode cX2_save 60 = .ok (.putfield 21, 3) := by decide +kernel
theorem dX2_save_63 : decode cX2_save 63 = .ok (.return_, 1) := by decide +kernel
set_option maxRecDepth 20000 in
theorem ggX2_restore_X0_copyFrom : GoodIn wsX2_restore wsX0_copyFrom := goodIn_r _ [8, 9, 10, 11, 12, 13, 14, 15, 16, 17, 18, 19, 20, 24, 25, 26, 27, 28, 29, 30, 31] (by decide +kernel) (by decide +kernel)
set_option maxRecDepth 20000 in
theorem gX2_restore_X0_copyFrom : GoodIn wsX2_restore (wsV RX2 25 RX0 yX0_copyFrom wsX0_copyFrom) := goodIn_app (goodIn_of _ (by decide +kernel)) ggX2_restore_X0_copyFrom
theorem dX2_restore_0 : decode cX2_restore 0 = .ok (.aload_n 0, 1) := by decide +kernel
theorem dX2_restore_1 : decode cX2_restore 1 = .ok (.dup, 1) := by decide +kernel
theorem dX2_restore_2 : decode cX2_restore 2 = .ok (.getfield 21, 3) := by decide +kernel
theorem dX2_restore_5 : decode cX2_restore 5 = .ok (.iconst 1, 1) := by decide +kernel
theorem dX2_restore_6 : decode cX2_restore 6 = .ok (.isub, 1) := by decide +kernel
theorem dX2_restore_7 : decode cX2_restore 7 = .ok (.putfield 21, 3) := by decide +kernel
theorem dX2_restore_10 : decode cX2_restore 10 = .ok (.aload_n 1, 1) := by decide +kernel
theorem dX2_restore_11 : decode cX2_restore 11 = .ok (.aload_n 0, 1) := by decide +kernel
theorem dX2_restore_12 : decode cX2_restore 12 = .ok (.getfield 11, 3) := by decide +kernel
theorem dX2_restore_15 : decode cX2_restore 15 = .ok (.aload_n 0, 1) := by decide +kernel
theorem dX2_restore_16 : decode cX2_restore 16 = .ok (.getfield 17, 3) := by decide +kernel
theorem dX2_restore_19 : decode cX2_restore 19 = .ok (.aload_n 0, 1) := by decide +kernel
theorem dX2_restore_20 : decode cX2_restore 20 = .ok (.getfield 21, 3) := by decide +kernel
theorem dX2_restore_23 : decode cX2_restore 23 = .ok (.iadd, 1) := by decide +kernel
theorem dX2_restore_24 : decode cX2_restore 24 = .ok (.bipush 8, 2) := by decide +kernel
theorem dX2_restore_26 : decode cX2_restore 26 = .ok (.irem, 1) := by decide +kernel
theorem dX2_restore_27 : decode cX2_restore 27 = .ok (.aaload, 1) := by decide +kernel
theorem dX2_restore_28 : decode cX2_restore 28 = .ok (.invokevirtual 25, 3) := by decide +kernel
theorem dX2_restore_31 : decode cX2_restore 31 = .ok (.return_, 1) := by decide +kernel
theorem dX3_init_0 : decode cX3_init 0 = .ok (.aload_n 0, 1) := by decide +kernel
theorem dX3_init_1 : decode cX3_init 1 = .ok (.invokespecial 3, 3) := by decide +kernel
theorem dX3_init_4 : decode cX3_init 4 = .ok (.aload_n 0, 1) := by decide +kernel
theorem dX3_init_5 : decode cX3_init 5 = .ok (.iconst 0, 1) := by decide +kernel
theorem dX3_init_6 : decode cX3_init 6 = .ok (.putfield 9, 3) := by decide +kernel
theorem dX3_init_9 : decode cX3_init 9 = .ok (.aload_n 0, 1) := by decide +kernel
theorem dX3_init_10 : decode cX3_init 10 = .ok (.iconst 0, 1) := by decide +kernel
theorem dX3_init_11 : decode cX3_init 11 = .ok (.putfield 15, 3) := by decide +kernel
theorem dX3_init_14 : decode cX3_init 14 = .ok (.aload_n 0, 1) := by decide +kernel
theorem dX3_init_15 : decode cX3_init 15 = .ok (.iconst 0, 1) := by decide +kernel
theorem dX3_init_16 : decode cX3_init 16 = .ok (.putfield 18, 3) := by decide +kernel
theorem dX3_init_19 : decode cX3_init 19 = .ok (.aload_n 0, 1) := by decide +kernel
theorem dX3_init_20 : decode cX3_init 20 = .ok (.iconst 0, 1) := by decide +kernel
theorem dX3_init_21 : decode cX3_init 21 = .ok (.putfield 21, 3) := by decide +kernel
theorem dX3_init_24 : decode cX3_init 24 = .ok (.return_, 1) := by decide +kernel
set_option maxRecDepth 20000 in
theorem ggX3_read_X3_ruledColors : GoodIn wsX3_read wsX3_ruledColors := goodIn_r _ [9, 10] (by decide +kernel) (by decide +kernel)
set_option maxRecDepth 20000 in
theorem gX3_read_X3_ruledColors : GoodIn wsX3_read (va_wsS RX3 30 yX3_ruledColors wsX3_ruledColors) := goodIn_app (goodIn_of _ (by decide +kernel)) ggX3_read_X3_ruledColors
set_option maxRecDepth 20000 in
theorem ggX3_read_X0_neighbor : GoodIn wsX3_read wsX0_neighbor := goodIn_r _ [15, 16, 17, 18, 19, 14, 20, 21, 47, 48, 49, 50, 51, 52, 53, 54] (by decide +kernel) (by decide +kernel)
set_option maxRecDepth 20000 in
theorem gX3_read_X0_neighbor : GoodIn wsX3_read (wsV RX3 34 RX0 yX0_neighbor wsX0_neighbor) := goodIn_app (goodIn_of _ (by decide +kernel)) ggX3_read_X0_neighbor
set_option maxRecDepth 20000 in
theorem ggX3_read_X0_isEmpty : GoodIn wsX3_read wsX0_isEmpty := goodIn_r _ [25, 26, 47, 48, 49, 50, 51, 52, 53, 54] (by decide +kernel) (by decide +kernel)
set_option maxRecDepth 20000 in
theorem gX3_read_X0_isEmpty : GoodIn wsX3_read (wsV RX3 38 RX0 yX0_isEmpty wsX0_isEmpty) := goodIn_app (goodIn_of _ (by decide +kernel)) ggX3_read_X0_isEmpty
set_option maxRecDepth 20000 in
theorem ggX3_read_X0_lookIn : GoodIn wsX3_read wsX0_lookIn := goodIn_r _ [30, 31, 26, 47, 48, 49, 50, 51, 52, 53, 54] (by decide +kernel) (by decide +kernel)
set_option maxRecDepth 20000 in
theorem gX3_read_X0_lookIn : GoodIn wsX3_read (wsV RX3 42 RX0 yX0_lookIn wsX0_lookIn) := goodIn_app (goodIn_of _ (by decide +kernel)) ggX3_read_X0_lookIn
set_option maxRecDepth 20000 in
theorem ggX3_read_X6_opposite : GoodIn wsX3_read wsX6_opposite := goodIn_r _ [34] (by decide +kernel) (by decide +kernel)
set_option maxRecDepth 20000 in
theorem gX3_read_X6_opposite_n45 : GoodIn wsX3_read (wsX6_opposite) := ggX3_read_X6_opposite
set_option maxRecDepth 20000 in
theorem ggX3_read_X6_colorsAt : GoodIn wsX3_read wsX6_colorsAt := goodIn_r _ [36, 37] (by decide +kernel) (by decide +kernel)
set_option maxRecDepth 20000 in
theorem gX3_read_X6_colorsAt_n48 : GoodIn wsX3_read (wsX6_colorsAt) := ggX3_read_X6_colorsAt
set_option maxRecDepth 20000 in
theorem ggX3_read_X3_readNeighbor : GoodIn wsX3_read wsX3_readNeighbor := goodIn_r _ [41, 2, 10, 3, 4, 42, 43, 44, 45, 46] (by decide +kernel) (by decide +kernel)
set_option maxRecDepth 20000 in
theorem gX3_read_X3_readNeighbor : GoodIn wsX3_read (wsV RX3 51 RX3 yX3_readNeighbor wsX3_readNeighbor) := goodIn_app (goodIn_of _ (by decide +kernel)) ggX3_read_X3_readNeighbor
theorem dX3_read_0 : decode cX3_read 0 = .ok (.aload_n 0, 1) := by decide +kernel
theorem dX3_read_1 : decode cX3_read 1 = .ok (.iconst 0, 1) := by decide +kernel
theorem dX3_read_2 : decode cX3_read 2 = .ok (.putfield 9, 3) := by decide +kernel
theorem dX3_read_5 : decode cX3_read 5 = .ok (.aload_n 0, 1) := by decide +kernel
theorem dX3_read_6 : decode cX3_read 6 = .ok (.iconst 0, 1) := by decide +kernel
theorem dX3_read_7 : decode cX3_read 7 = .ok (.putfield 15, 3) := by decide +kernel
theorem dX3_read_10 : decode cX3_read 10 = .ok (.aload_n 0, 1) := by decide +kernel
theorem dX3_read_11 : decode cX3_read 11 = .ok (.iconst 0, 1) := by decide +kernel
theorem dX3_read_12 : decode cX3_read 12 = .ok (.putfield 18, 3) := by decide +kernel
theorem dX3_read_15 : decode cX3_read 15 = .ok (.aload_n 0, 1) := by decide +kernel
theorem dX3_read_16 : decode cX3_read 16 = .ok (.iconst 0, 1) := by decide +kernel
theorem dX3_read_17 : decode cX3_read 17 = .ok (.putfield 21, 3) := by decide +kernel
theorem dX3_read_20 : decode cX3_read 20 = .ok (.aload_n 1, 1) := by decide +kernel
theorem dX3_read_21 : decode cX3_read 21 = .ok (.getfield 25, 3) := by decide +kernel
theorem dX3_read_24 : decode cX3_read 24 = .ok (.invokestatic 30, 3) := by decide +kernel
theorem dX3_read_27 : decode cX3_read 27 = .ok (.istore_n 3, 1) := by decide +kernel
theorem dX3_read_28 : decode cX3_read 28 = .ok (.iconst 0, 1) := by decide +kernel
theorem dX3_read_29 : decode cX3_read 29 = .ok (.istore 4, 2) := by decide +kernel
theorem dX3_read_31 : decode cX3_read 31 = .ok (.iload 4, 2) := by decide +kernel
theorem dX3_read_33 : decode cX3_read 33 = .ok (.iconst 4, 1) := by decide +kernel
theorem dX3_read_34 : decode cX3_read 34 = .ok (.if_icmp .ge 72, 3) := by decide +kernel
theorem dX3_read_37 : decode cX3_read 37 = .ok (.aload_n 1, 1) := by decide +kernel
theorem dX3_read_38 : decode cX3_read 38 = .ok (.iload_n 2, 1) := by decide +kernel
theorem dX3_read_39 : decode cX3_read 39 = .ok (.iload 4, 2) := by decide +kernel
theorem dX3_read_41 : decode cX3_read 41 = .ok (.invokevirtual 34, 3) := by decide +kernel
theorem dX3_read_44 : decode cX3_read 44 = .ok (.istore 5, 2) := by decide +kernel
theorem dX3_read_46 : decode cX3_read 46 = .ok (.iload 5, 2) := by decide +kernel
theorem dX3_read_48 : decode cX3_read 48 = .ok (.iconst (-1), 1) := by decide +kernel
theorem dX3_read_49 : decode cX3_read 49 = .ok (.if_icmp .ne 21, 3) := by decide +kernel
theorem dX3_read_52 : decode cX3_read 52 = .ok (.aload_n 0, 1) := by decide +kernel
theorem dX3_read_53 : decode cX3_read 53 = .ok (.dup, 1) := by decide +kernel
theorem dX3_read_54 : decode cX3_read 54 = .ok (.getfield 9, 3) := by decide +kernel
theorem dX3_read_57 : decode cX3_read 57 = .ok (.iload_n 3, 1) := by decide +kernel
theorem dX3_read_58 : decode cX3_read 58 = .ok (.iconst 4, 1) := by decide +kernel
theorem dX3_read_59 : decode cX3_read 59 = .ok (.iload 4, 2) := by decide +kernel
theorem dX3_read_61 : decode cX3_read 61 = .ok (.imul, 1) := by decide +kernel
theorem dX3_read_62 : decode cX3_read 62 = .ok (.ishl, 1) := by decide +kernel
theorem dX3_read_63 : decode cX3_read 63 = .ok (.ior, 1) := by decide +kernel
theorem dX3_read_64 : decode cX3_read 64 = .ok (.putfield 9, 3) := by decide +kernel
theorem dX3_read_67 : decode cX3_read 67 = .ok (.goto 33, 3) := by decide +kernel
theorem dX3_read_70 : decode cX3_read 70 = .ok (.aload_n 1, 1) := by decide +kernel
theorem dX3_read_71 : decode cX3_read 71 = .ok (.iload 5, 2) := by decide +kernel
theorem dX3_read_73 : decode cX3_read 73 = .ok (.invokevirtual 38, 3) := by decide +kernel
theorem dX3_read_76 : decode cX3_read 76 = .ok (.ifCond .ne 24, 3) := by decide +kernel
theorem dX3_read_79 : decode cX3_read 79 = .ok (.aload_n 0, 1) := by decide +kernel
theorem dX3_read_80 : decode cX3_read 80 = .ok (.aload_n 1, 1) := by decide +kernel
theorem dX3_read_81 : decode cX3_read 81 = .ok (.iload 5, 2) := by decide +kernel
theorem dX3_read_83 : decode cX3_read 83 = .ok (.invokevirtual 42, 3) := by decide +kernel
theorem dX3_read_86 : decode cX3_read 86 = .ok (.iload 4, 2) := by decide +kernel
theorem dX3_read_88 : decode cX3_read 88 = .ok (.invokestatic 45, 3) := by decide +kernel
theorem dX3_read_91 : decode cX3_read 91 = .ok (.invokestatic 48, 3) := by decide +kernel
theorem dX3_read_94 : decode cX3_read 94 = .ok (.iload 4, 2) := by decide +kernel
theorem dX3_read_96 : decode cX3_read 96 = .ok (.iload_n 3, 1) := by decide +kernel
theorem dX3_read_97 : decode cX3_read 97 = .ok (.invokevirtual 51, 3) := by decide +kernel
theorem dX3_read_100 : decode cX3_read 100 = .ok (.iinc 4 1, 3) := by decide +kernel
theorem dX3_read_103 : decode cX3_read 103 = .ok (.goto (-72), 3) := by decide +kernel
theorem dX3_read_106 : decode cX3_read 106 = .ok (.return_, 1) := by decide +kernel
theorem dX3_readNeighbor_0 : decode cX3_readNeighbor 0 = .ok (.aload_n 0, 1) := by decide +kernel
theorem dX3_readNeighbor_1 : decode cX3_readNeighbor 1 = .ok (.dup, 1) := by decide +kernel
theorem dX3_readNeighbor_2 : decode cX3_readNeighbor 2 = .ok (.getfield 15, 3) := by decide +kernel
theorem dX3_readNeighbor_5 : decode cX3_readNeighbor 5 = .ok (.ldc 55, 2) := by decide +kernel
theorem dX3_readNeighbor_7 : decode cX3_readNeighbor 7 = .ok (.iconst 4, 1) := by decide +kernel
theorem dX3_readNeighbor_8 : decode cX3_readNeighbor 8 = .ok (.iload_n 2, 1) := by decide +kernel
theorem dX3_readNeighbor_9 : decode cX3_readNeighbor 9 = .ok (.imul, 1) := by decide +kernel
theorem dX3_readNeighbor_10 : decode cX3_readNeighbor 10 = .ok (.ishl, 1) := by decide +kernel
theorem dX3_readNeighbor_11 : decode cX3_readNeighbor 11 = .ok (.ior, 1) := by decide +kernel
theorem dX3_readNeighbor_12 : decode cX3_readNeighbor 12 = .ok (.putfield 15, 3) := by decide +kernel
theorem dX3_readNeighbor_15 : decode cX3_readNeighbor 15 = .ok (.aload_n 0, 1) := by decide +kernel
theorem dX3_readNeighbor_16 : decode cX3_readNeighbor 16 = .ok (.dup, 1) := by decide +kernel
theorem dX3_readNeighbor_17 : decode cX3_readNeighbor 17 = .ok (.getfield 18, 3) := by decide +kernel
theorem dX3_readNeighbor_20 : decode cX3_readNeighbor 20 = .ok (.iload_n 1, 1) := by decide +kernel
theorem dX3_readNeighbor_21 : decode cX3_readNeighbor 21 = .ok (.iconst 4, 1) := by decide +kernel
theorem dX3_readNeighbor_22 : decode cX3_readNeighbor 22 = .ok (.iload_n 2, 1) := by decide +kernel
theorem dX3_readNeighbor_23 : decode cX3_readNeighbor 23 = .ok (.imul, 1) := by decide +kernel
theorem dX3_readNeighbor_24 : decode cX3_readNeighbor 24 = .ok (.ishl, 1) := by decide +kernel
theorem dX3_readNeighbor_25 : decode cX3_readNeighbor 25 = .ok (.ior, 1) := by decide +kernel
theorem dX3_readNeighbor_26 : decode cX3_readNeighbor 26 = .ok (.putfield 18, 3) := by decide +kernel
theorem dX3_readNeighbor_29 : decode cX3_readNeighbor 29 = .ok (.iload_n 3, 1) := by decide +kernel
theorem dX3_readNeighbor_30 : decode cX3_readNeighbor 30 = .ok (.bipush 15, 2) := by decide +kernel
theorem dX3_readNeighbor_32 : decode cX3_readNeighbor 32 = .ok (.iand, 1) := by decide +kernel
theorem dX3_readNeighbor_33 : decode cX3_readNeighbor 33 = .ok (.ifCond .eq 15, 3) := by decide +kernel
theorem dX3_readNeighbor_36 : decode cX3_readNeighbor 36 = .ok (.iload_n 1, 1) := by decide +kernel
theorem dX3_readNeighbor_37 : decode cX3_readNeighbor 37 = .ok (.bipush 15, 2) := by decide +kernel
theorem dX3_readNeighbor_39 : decode cX3_readNeighbor 39 = .ok (.iand, 1) := by decide +kernel
theorem dX3_readNeighbor_40 : decode cX3_readNeighbor 40 = .ok (.ifCond .ne 8, 3) := by decide +kernel
theorem dX3_readNeighbor_43 : decode cX3_readNeighbor 43 = .ok (.aload_n 0, 1) := by decide +kernel
theorem dX3_readNeighbor_44 : decode cX3_readNeighbor 44 = .ok (.iconst 1, 1) := by decide +kernel
theorem dX3_readNeighbor_45 : decode cX3_readNeighbor 45 = .ok (.putfield 21, 3) := by decide +kernel
theorem dX3_readNeighbor_48 : decode cX3_readNeighbor 48 = .ok (.iload_n 3, 1) := by decide +kernel
theorem dX3_readNeighbor_49 : decode cX3_readNeighbor 49 = .ok (.ldc 56, 2) := by decide +kernel
theorem dX3_readNeighbor_51 : decode cX3_readNeighbor 51 = .ok (.iand, 1) := by decide +kernel
theorem dX3_readNeighbor_52 : decode cX3_readNeighbor 52 = .ok (.ifCond .eq 15, 3) := by decide +kernel
theorem dX3_readNeighbor_55 : decode cX3_readNeighbor 55 = .ok (.iload_n 1, 1) := by decide +kernel
theorem dX3_readNeighbor_56 : decode cX3_readNeighbor 56 = .ok (.ldc 56, 2) := by decide +kernel
theorem dX3_readNeighbor_58 : decode cX3_readNeighbor 58 = .ok (.iand, 1) := by decide +kernel
theorem dX3_readNeighbor_59 : decode cX3_readNeighbor 59 = .ok (.ifCond .ne 8, 3) := by decide +kernel
theorem dX3_readNeighbor_62 : decode cX3_readNeighbor 62 = .ok (.aload_n 0, 1) := by decide +kernel
theorem dX3_readNeighbor_63 : decode cX3_readNeighbor 63 = .ok (.iconst 1, 1) := by decide +kernel
theorem dX3_readNeighbor_64 : decode cX3_readNeighbor 64 = .ok (.putfield 21, 3) := by decide +kernel
theorem dX3_readNeighbor_67 : decode cX3_readNeighbor 67 = .ok (.return_, 1) := by decide +kernel
theorem dX3_ruledColors_0 : decode cX3_ruledColors 0 = .ok (.iload_n 0, 1) := by decide +kernel
theorem dX3_ruledColors_1 : decode cX3_ruledColors 1 = .ok (.ifCond .ne 5, 3) := by decide +kernel
theorem dX3_ruledColors_4 : decode cX3_ruledColors 4 = .ok (.iconst 0, 1) := by decide +kernel
theorem dX3_ruledColors_5 : decode cX3_ruledColors 5 = .ok (.ireturn, 1) := by decide +kernel
theorem dX3_ruledColors_6 : decode cX3_ruledColors 6 = .ok (.iload_n 0, 1) := by decide +kernel
theorem dX3_ruledColors_7 : decode cX3_ruledColors 7 = .ok (.iconst 1, 1) := by decide +kernel
theorem dX3_ruledColors_8 : decode cX3_ruledColors 8 = .ok (.if_icmp .ne 8, 3) := by decide +kernel
theorem dX3_ruledColors_11 : decode cX3_ruledColors 11 = .ok (.bipush 15, 2) := by decide +kernel
theorem dX3_ruledColors_13 : decode cX3_ruledColors 13 = .ok (.goto 5, 3) := by decide +kernel
theorem dX3_ruledColors_16 : decode cX3_ruledColors 16 = .ok (.ldc 55, 2) := by decide +kernel
theorem dX3_ruledColors_18 : decode cX3_ruledColors 18 = .ok (.ireturn, 1) := by decide +kernel
theorem dX3_reasonAgainst_0 : decode cX3_reasonAgainst 0 = .ok (.iload_n 1, 1) := by decide +kernel
theorem dX3_reasonAgainst_1 : decode cX3_reasonAgainst 1 = .ok (.aload_n 0, 1) := by decide +kernel
theorem dX3_reasonAgainst_2 : decode cX3_reasonAgainst 2 = .ok (.getfield 9, 3) := by decide +kernel
theorem dX3_reasonAgainst_5 : decode cX3_reasonAgainst 5 = .ok (.iand, 1) := by decide +kernel
theorem dX3_reasonAgainst_6 : decode cX3_reasonAgainst 6 = .ok (.ifCond .eq 5, 3) := by decide +kernel
theorem dX3_reasonAgainst_9 : decode cX3_reasonAgainst 9 = .ok (.iconst 3, 1) := by decide +kernel
theorem dX3_reasonAgainst_10 : decode cX3_reasonAgainst 10 = .ok (.ireturn, 1) := by decide +kernel
theorem dX3_reasonAgainst_11 : decode cX3_reasonAgainst 11 = .ok (.iload_n 1, 1) := by decide +kernel
theorem dX3_reasonAgainst_12 : decode cX3_reasonAgainst 12 = .ok (.aload_n 0, 1) := by decide +kernel
theorem dX3_reasonAgainst_13 : decode cX3_reasonAgainst 13 = .ok (.getfield 18, 3) := by decide +kernel
theorem dX3_reasonAgainst_16 : decode cX3_reasonAgainst 16 = .ok (.ixor, 1) := by decide +kernel
theorem dX3_reasonAgainst_17 : decode cX3_reasonAgainst 17 = .ok (.aload_n 0, 1) := by decide +kernel
theorem dX3_reasonAgainst_18 : decode cX3_reasonAgainst 18 = .ok (.getfield 15, 3) := by decide +kernel
theorem dX3_reasonAgainst_21 : decode cX3_reasonAgainst 21 = .ok (.iand, 1) := by decide +kernel
theorem dX3_reasonAgainst_22 : decode cX3_reasonAgainst 22 = .ok (.istore_n 2, 1) := by decide +kernel
theorem dX3_reasonAgainst_23 : decode cX3_reasonAgainst 23 = .ok (.iload_n 2, 1) := by decide +kernel
theorem dX3_reasonAgainst_24 : decode cX3_reasonAgainst 24 = .ok (.ldc 57, 2) := by decide +kernel
theorem dX3_reasonAgainst_26 : decode cX3_reasonAgainst 26 = .ok (.iand, 1) := by decide +kernel
theorem dX3_reasonAgainst_27 : decode cX3_reasonAgainst 27 = .ok (.ifCond .eq 5, 3) := by decide +kernel
theorem dX3_reasonAgainst_30 : decode cX3_reasonAgainst 30 = .ok (.iconst 4, 1) := by decide +kernel
theorem dX3_reasonAgainst_31 : decode cX3_reasonAgainst 31 = .ok (.ireturn, 1) := by decide +kernel
theorem dX3_reasonAgainst_32 : decode cX3_reasonAgainst 32 = .ok (.iload_n 2, 1) := by decide +kernel
theorem dX3_reasonAgainst_33 : decode cX3_reasonAgainst 33 = .ok (.ifCond .eq 5, 3) := by decide +kernel
theorem dX3_reasonAgainst_36 : decode cX3_reasonAgainst 36 = .ok (.iconst 5, 1) := by decide +kernel
theorem dX3_reasonAgainst_37 : decode cX3_reasonAgainst 37 = .ok (.ireturn, 1) := by decide +kernel
theorem dX3_reasonAgainst_38 : decode cX3_reasonAgainst 38 = .ok (.aload_n 0, 1) := by decide +kernel
theorem dX3_reasonAgainst_39 : decode cX3_reasonAgainst 39 = .ok (.getfield 21, 3) := by decide +kernel
theorem dX3_reasonAgainst_42 : decode cX3_reasonAgainst 42 = .ok (.ifCond .eq 8, 3) := by decide +kernel
theorem dX3_reasonAgainst_45 : decode cX3_reasonAgainst 45 = .ok (.bipush 6, 2) := by decide +kernel
theorem dX3_reasonAgainst_47 : decode cX3_reasonAgainst 47 = .ok (.goto 4, 3) := by decide +kernel
theorem dX3_reasonAgainst_50 : decode cX3_reasonAgainst 50 = .ok (.iconst 0, 1) := by decide +kernel
theorem dX3_reasonAgainst_51 : decode cX3_reasonAgainst 51 = .ok (.ireturn, 1) := by decide +kernel
set_option maxRecDepth 20000 in
theorem ggX4_init_X0_init : GoodIn wsX4_init wsX0_init := goodIn_r _ [18, 19, 2, 3, 20, 21, 22, 23, 24, 25, 26, 27, 28, 36, 37, 38, 39, 40, 41, 42, 43] (by decide +kernel) (by decide +kernel)
set_option maxRecDepth 20000 in
theorem gX4_init_X0_init_n11 : GoodIn wsX4_init (wsX0_init) := ggX4_init_X0_init
set_option maxRecDepth 20000 in
theorem ggX4_init_X3_init : GoodIn wsX4_init wsX3_init := goodIn_r _ [30, 31, 2, 3, 32, 33, 34, 35, 51, 52, 53, 54] (by decide +kernel) (by decide +kernel)
set_option maxRecDepth 20000 in
theorem gX4_init_X3_init_n41 : GoodIn wsX4_init (wsX3_init) := ggX4_init_X3_init
theorem dX4_init_0 : decode cX4_init 0 = .ok (.aload_n 0, 1) := by decide +kernel
theorem dX4_init_1 : decode cX4_init 1 = .ok (.invokespecial 3, 3) := by decide +kernel
theorem dX4_init_4 : decode cX4_init 4 = .ok (.aload_n 0, 1) := by decide +kernel
theorem dX4_init_5 : decode cX4_init 5 = .ok (.new 9, 3) := by decide +kernel
theorem dX4_init_8 : decode cX4_init 8 = .ok (.dup, 1) := by decide +kernel
theorem dX4_init_9 : decode cX4_init 9 = .ok (.invokespecial 11, 3) := by decide +kernel
theorem dX4_init_12 : decode cX4_init 12 = .ok (.putfield 12, 3) := by decide +kernel
theorem dX4_init_15 : decode cX4_init 15 = .ok (.aload_n 0, 1) := by decide +kernel
theorem dX4_init_16 : decode cX4_init 16 = .ok (.iconst 0, 1) := by decide +kernel
theorem dX4_init_17 : decode cX4_init 17 = .ok (.putfield 18, 3) := by decide +kernel
theorem dX4_init_20 : decode cX4_init 20 = .ok (.aload_n 0, 1) := by decide +kernel
theorem dX4_init_21 : decode cX4_init 21 = .ok (.bipush 12, 2) := by decide +kernel
theorem dX4_init_23 : decode cX4_init 23 = .ok (.anewarray 22, 3) := by decide +kernel
theorem dX4_init_26 : decode cX4_init 26 = .ok (.putfield 24, 3) := by decide +kernel
theorem dX4_init_29 : decode cX4_init 29 = .ok (.aload_n 0, 1) := by decide +kernel
theorem dX4_init_30 : decode cX4_init 30 = .ok (.iconst 0, 1) := by decide +kernel
theorem dX4_init_31 : decode cX4_init 31 = .ok (.putfield 28, 3) := by decide +kernel
theorem dX4_init_34 : decode cX4_init 34 = .ok (.aload_n 0, 1) := by decide +kernel
theorem dX4_init_35 : decode cX4_init 35 = .ok (.iconst 0, 1) := by decide +kernel
theorem dX4_init_36 : decode cX4_init 36 = .ok (.putfield 31, 3) := by decide +kernel
theorem dX4_init_39 : decode cX4_init 39 = .ok (.aload_n 0, 1) := by decide +kernel
theorem dX4_init_40 : decode cX4_init 40 = .ok (.iconst 0, 1) := by decide +kernel
theorem dX4_init_41 : decode cX4_init 41 = .ok (.putfield 34, 3) := by decide +kernel
theorem dX4_init_44 : decode cX4_init 44 = .ok (.aload_n 0, 1) := by decide +kernel
theorem dX4_init_45 : decode cX4_init 45 = .ok (.iconst 0, 1) := by decide +kernel
theorem dX4_init_46 : decode cX4_init 46 = .ok (.putfield 38, 3) := by decide +kernel
theorem dX4_init_49 : decode cX4_init 49 = .ok (.iconst 0, 1) := by decide +kernel
theorem dX4_init_50 : decode cX4_init 50 = .ok (.istore_n 1, 1) := by decide +kernel
theorem dX4_init_51 : decode cX4_init 51 = .ok (.iload_n 1, 1) := by decide +kernel
theorem dX4_init_52 : decode cX4_init 52 = .ok (.bipush 12, 2) := by decide +kernel
theorem dX4_init_54 : decode cX4_init 54 = .ok (.if_icmp .ge 22, 3) := by decide +kernel
theorem dX4_init_57 : decode cX4_init 57 = .ok (.aload_n 0, 1) := by decide +kernel
theorem dX4_init_58 : decode cX4_init 58 = .ok (.getfield 24, 3) := by decide +kernel
theorem dX4_init_61 : decode cX4_init 61 = .ok (.iload_n 1, 1) := by decide +kernel
theorem dX4_init_62 : decode cX4_init 62 = .ok (.new 22, 3) := by decide +kernel
theorem dX4_init_65 : decode cX4_init 65 = .ok (.dup, 1) := by decide +kernel
theorem dX4_init_66 : decode cX4_init 66 = .ok (.invokespecial 41, 3) := by decide +kernel
theorem dX4_init_69 : decode cX4_init 69 = .ok (.aastore, 1) := by decide +kernel
theorem dX4_init_70 : decode cX4_init 70 = .ok (.iinc 1 1, 3) := by decide +kernel
theorem dX4_init_73 : decode cX4_init 73 = .ok (.goto (-22), 3) := by decide +kernel
theorem dX4_init_76 : decode cX4_init 76 = .ok (.return_, 1) := by decide +kernel
set_option maxRecDepth 20000 in
theorem ggX4_run_X0_copyFrom : GoodIn wsX4_run wsX0_copyFrom := goodIn_r _ [6, 7, 8, 9, 10, 11, 12, 13, 14, 15, 16, 17, 18, 107, 108, 109, 110, 111, 112, 113, 114] (by decide +kernel) (by decide +kernel)
set_option maxRecDepth 20000 in
theorem gX4_run_X0_copyFrom : GoodIn wsX4_run (wsV RX4 42 RX0 yX0_copyFrom wsX0_copyFrom) := goodIn_app (goodIn_of _ (by decide +kernel)) ggX4_run_X0_copyFrom
set_option maxRecDepth 20000 in
theorem ggX4_run_X4_runTrial : GoodIn wsX4_run wsX4_runTrial := goodIn_r _ [23, 24, 25, 26, 27, 28, 29, 30, 31, 22, 32, 1, 33, 34, 35, 36, 37, 38, 5, 39, 7, 8, 40, 41, 42, 43, 12, 44, 45, 46, 47, 48, 49, 50, 51, 52, 53, 54, 55, 56, 57, 58, 59, 60, 61, 62, 63, 64, 65, 66, 67, 18, 68, 69, 70, 71, 72, 73, 74, 75, 76, 77, 78, 79, 80, 81, 82, 17, 83, 84, 85, 86, 87, 88, 89, 90, 91, 92, 93, 94, 95, 96, 97, 98, 99, 100, 101, 102, 103, 104, 105, 106, 107, 108, 109, 110, 111, 112, 113, 114, 115, 116, 117, 118] (by decide +kernel) (by decide +kernel)
set_option maxRecDepth 20000 in
theorem gX4_run_X4_runTrial : GoodIn wsX4_run (wsV RX4 46 RX4 yX4_runTrial wsX4_runTrial) := goodIn_app (goodIn_of _ (by decide +kernel)) ggX4_run_X4_runTrial
theorem dX4_run_0 : decode cX4_run 0 = .ok (.aload_n 0, 1) := by decide +kernel
theorem dX4_run_1 : decode cX4_run 1 = .ok (.getfield 12, 3) := by decide +kernel
theorem dX4_run_4 : decode cX4_run 4 = .ok (.aload_n 1, 1) := by decide +kernel
theorem dX4_run_5 : decode cX4_run 5 = .ok (.invokevirtual 42, 3) := by decide +kernel
theorem dX4_run_8 : decode cX4_run 8 = .ok (.aload_n 0, 1) := by decide +kernel
theorem dX4_run_9 : decode cX4_run 9 = .ok (.iload_n 2, 1) := by decide +kernel
theorem dX4_run_10 : decode cX4_run 10 = .ok (.invokevirtual 46, 3) := by decide +kernel
theorem dX4_run_13 : decode cX4_run 13 = .ok (.return_, 1) := by decide +kernel
theorem dX4_result_0 : decode cX4_result 0 = .ok (.iload_n 1, 1) := by decide +kernel
theorem dX4_result_1 : decode cX4_result 1 = .ok (.lookupswitch 37 #[(0, 27), (1, 32)], 27) := by decide +kernel
theorem dX4_result_28 : decode cX4_result 28 = .ok (.aload_n 0, 1) := by decide +kernel
theorem dX4_result_29 : decode cX4_result 29 = .ok (.getfield 18, 3) := by decide +kernel
theorem dX4_result_32 : decode cX4_result 32 = .ok (.ireturn, 1) := by decide +kernel
theorem dX4_result_33 : decode cX4_result 33 = .ok (.aload_n 0, 1) := by decide +kernel
theorem dX4_result_34 : decode cX4_result 34 = .ok (.getfield 31, 3) := by decide +kernel
theorem dX4_result_37 : decode cX4_result 37 = .ok (.ireturn, 1) := by decide +kernel
theorem dX4_result_38 : decode cX4_result 38 = .ok (.aload_n 0, 1) := by decide +kernel
theorem dX4_result_39 : decode cX4_result 39 = .ok (.getfield 34, 3) := by decide +kernel
theorem dX4_result_42 : decode cX4_result 42 = .ok (.ifCond .eq 7, 3) := by decide +kernel
theorem dX4_result_45 : decode cX4_result 45 = .ok (.iconst 1, 1) := by decide +kernel
theorem dX4_result_46 : decode cX4_result 46 = .ok (.goto 4, 3) := by decide +kernel
theorem dX4_result_49 : decode cX4_result 49 = .ok (.iconst 0, 1) := by decide +kernel
theorem dX4_result_50 : decode cX4_result 50 = .ok (.ireturn, 1) := by decide +kernel
set_option maxRecDepth 20000 in
theorem ggX4_runTrial_X4_fillFrom : GoodIn wsX4_runTrial wsX4_fillFrom := goodIn_r _ [10, 11, 2, 1, 5, 12, 13, 14, 15, 16, 17, 18, 19, 20, 21, 22, 23, 24, 25, 26, 27, 28, 29, 30, 31, 32, 33, 34, 35, 36, 37, 38, 39, 40, 41, 42, 43, 44, 45, 46, 47, 48, 49, 50, 51, 52, 53, 54, 55, 56, 57, 58, 59, 60, 61, 62, 63, 64, 65, 66, 67, 68, 69, 70, 71, 72, 73, 74, 75, 9, 76, 3, 4, 77, 78, 79, 80, 6, 7, 8, 81, 82, 83, 84, 85, 86, 87, 88, 89, 90, 91, 92, 93, 94, 95, 96, 97, 98, 99, 100, 101, 102, 103] (by decide +kernel) (by decide +kernel)
set_option maxRecDepth 20000 in
theorem gX4_runTrial_X4_fillFrom : GoodIn wsX4_runTrial (wsV RX4 54 RX4 yX4_fillFrom wsX4_fillFrom) := goodIn_app (goodIn_of _ (by decide +kernel)) ggX4_runTrial_X4_fillFrom
theorem dX4_runTrial_0 : decode cX4_runTrial 0 = .ok (.aload_n 0, 1) := by decide +kernel
theorem dX4_runTrial_1 : decode cX4_runTrial 1 = .ok (.iload_n 1, 1) := by decide +kernel
theorem dX4_runTrial_2 : decode cX4_runTrial 2 = .ok (.putfield 28, 3) := by decide +kernel
theorem dX4_runTrial_5 : decode cX4_runTrial 5 = .ok (.aload_n 0, 1) := by decide +kernel
theorem dX4_runTrial_6 : decode cX4_runTrial 6 = .ok (.iconst 0, 1) := by decide +kernel
theorem dX4_runTrial_7 : decode cX4_runTrial 7 = .ok (.putfield 18, 3) := by decide +kernel
theorem dX4_runTrial_10 : decode cX4_runTrial 10 = .ok (.aload_n 0, 1) := by decide +kernel
theorem dX4_runTrial_11 : decode cX4_runTrial 11 = .ok (.iconst 0, 1) := by decide +kernel
theorem dX4_runTrial_12 : decode cX4_runTrial 12 = .ok (.putfield 31, 3) := by decide +kernel
theorem dX4_runTrial_15 : decode cX4_runTrial 15 = .ok (.aload_n 0, 1) := by decide +kernel
theorem dX4_runTrial_16 : decode cX4_runTrial 16 = .ok (.iconst 0, 1) := by decide +kernel
theorem dX4_runTrial_17 : decode cX4_runTrial 17 = .ok (.putfield 34, 3) := by decide +kernel
theorem dX4_runTrial_20 : decode cX4_runTrial 20 = .ok (.aload_n 0, 1) := by decide +kernel
theorem dX4_runTrial_21 : decode cX4_runTrial 21 = .ok (.iconst 0, 1) := by decide +kernel
theorem dX4_runTrial_22 : decode cX4_runTrial 22 = .ok (.putfield 38, 3) := by decide +kernel
theorem dX4_runTrial_25 : decode cX4_runTrial 25 = .ok (.aload_n 0, 1) := by decide +kernel
theorem dX4_runTrial_26 : decode cX4_runTrial 26 = .ok (.iconst 0, 1) := by decide +kernel
theorem dX4_runTrial_27 : decode cX4_runTrial 27 = .ok (.invokevirtual 54, 3) := by decide +kernel
theorem dX4_runTrial_30 : decode cX4_runTrial 30 = .ok (.return_, 1) := by decide +kernel
set_option maxRecDepth 20000 in
theorem ggX4_fillFrom_X0_cells : GoodIn wsX4_fillFrom wsX0_cells := goodIn_r _ [12, 13, 14, 91, 92, 93, 94, 95, 96, 97, 98] (by decide +kernel) (by decide +kernel)
set_option maxRecDepth 20000 in
theorem gX4_fillFrom_X0_cells : GoodIn wsX4_fillFrom (wsV RX4 57 RX0 yX0_cells wsX0_cells) := goodIn_app (goodIn_of _ (by decide +kernel)) ggX4_fillFrom_X0_cells
set_option maxRecDepth 20000 in
theorem ggX4_fillFrom_X0_isEmpty : GoodIn wsX4_fillFrom wsX0_isEmpty := goodIn_r _ [18, 19, 91, 92, 93, 94, 95, 96, 97, 98] (by decide +kernel) (by decide +kernel)
set_option maxRecDepth 20000 in
theorem gX4_fillFrom_X0_isEmpty : GoodIn wsX4_fillFrom (wsV RX4 61 RX0 yX0_isEmpty wsX0_isEmpty) := goodIn_app (goodIn_of _ (by decide +kernel)) ggX4_fillFrom_X0_isEmpty
set_option maxRecDepth 20000 in
theorem ggX4_fillFrom_X3_read : GoodIn wsX4_fillFrom wsX3_read := goodIn_r _ [24, 25, 26, 27, 28, 29, 30, 31, 23, 32, 33, 34, 35, 36, 11, 37, 14, 38, 9, 10, 12, 13, 39, 16, 17, 18, 19, 40, 41, 42, 43, 44, 45, 46, 47, 48, 49, 50, 51, 52, 53, 54, 55, 99, 100, 101, 102, 91, 92, 93, 94, 95, 96, 97, 98] (by decide +kernel) (by decide +kernel)
set_option maxRecDepth 20000 in
theorem gX4_fillFrom_X3_read : GoodIn wsX4_fillFrom (wsV RX4 65 RX3 yX3_read wsX3_read) := goodIn_app (goodIn_of _ (by decide +kernel)) ggX4_fillFrom_X3_read
