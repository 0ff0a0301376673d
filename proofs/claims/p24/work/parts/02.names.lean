def RX0 : String := "LoshuHall$Changes"
def TX0 : u_T := fun k => match k with
  | _ => ("", "", "", false)
def tyX0 : Nat → FieldType := fun k => match k with
  | _ => .int
theorem nmX0 : ∀ a, a < 0 → ∀ b, b < 0 → a ≠ b → (TX0 a).2.1 ≠ (TX0 b).2.1 := by decide +kernel
theorem tyX0_ok : ∀ k, k < 0 → parseFieldDescriptor (TX0 k).2.2.1 = some (tyX0 k) := by decide +kernel
abbrev cX0_mostBy : ByteArray := prog_2_method_2_code
def yX0_mostBy : MethodName := ⟨RX0, "mostBy", "(II)I"⟩
abbrev cX0_move : ByteArray := prog_2_method_3_code
def yX0_move : MethodName := ⟨RX0, "move", "(LLoshuHall$Figure;LLoshuHall$Figure;II)I"⟩
abbrev cX0_aheadOf : ByteArray := prog_2_method_4_code
def yX0_aheadOf : MethodName := ⟨RX0, "aheadOf", "(IIII)I"⟩
abbrev cX0_canComplement : ByteArray := prog_2_method_5_code
def yX0_canComplement : MethodName := ⟨RX0, "canComplement", "(LLoshuHall$Figure;I)Z"⟩
abbrev cX0_complement : ByteArray := prog_2_method_6_code
def yX0_complement : MethodName := ⟨RX0, "complement", "(LLoshuHall$Figure;I)I"⟩
def RX1 : String := "LoshuHall$Figure"
def TX1 : u_T := fun k => match k with
  | 0 => ("LoshuHall$Figure", "numbers", "[I", true)
  | _ => ("LoshuHall$Figure", "side", "I", false)
def tyX1 : Nat → FieldType := fun k => match k with
  | 0 => .array .int
  | _ => .int
theorem nmX1 : ∀ a, a < 2 → ∀ b, b < 2 → a ≠ b → (TX1 a).2.1 ≠ (TX1 b).2.1 := by decide +kernel
theorem tyX1_ok : ∀ k, k < 2 → parseFieldDescriptor (TX1 k).2.2.1 = some (tyX1 k) := by decide +kernel
abbrev cX1_init : ByteArray := prog_3_method_1_code
def yX1_init : MethodName := ⟨RX1, "<init>", "()V"⟩
abbrev cX1_begin : ByteArray := prog_3_method_2_code
def yX1_begin : MethodName := ⟨RX1, "begin", "(I)V"⟩
abbrev cX1_copyFrom : ByteArray := prog_3_method_3_code
def yX1_copyFrom : MethodName := ⟨RX1, "copyFrom", "(LLoshuHall$Figure;)V"⟩
abbrev cX1_side : ByteArray := prog_3_method_4_code
def yX1_side : MethodName := ⟨RX1, "side", "()I"⟩
abbrev cX1_size : ByteArray := prog_3_method_5_code
def yX1_size : MethodName := ⟨RX1, "size", "()I"⟩
abbrev cX1_placeOf : ByteArray := prog_3_method_6_code
def yX1_placeOf : MethodName := ⟨RX1, "placeOf", "(II)I"⟩
abbrev cX1_read : ByteArray := prog_3_method_7_code
def yX1_read : MethodName := ⟨RX1, "read", "(I)I"⟩
abbrev cX1_write : ByteArray := prog_3_method_8_code
def yX1_write : MethodName := ⟨RX1, "write", "(II)I"⟩
abbrev cX1_countOf : ByteArray := prog_3_method_9_code
def yX1_countOf : MethodName := ⟨RX1, "countOf", "(I)I"⟩
def RX2 : String := "LoshuHall$Forms"
def TX2 : u_T := fun k => match k with
  | _ => ("", "", "", false)
def tyX2 : Nat → FieldType := fun k => match k with
  | _ => .int
theorem nmX2 : ∀ a, a < 0 → ∀ b, b < 0 → a ≠ b → (TX2 a).2.1 ≠ (TX2 b).2.1 := by decide +kernel
theorem tyX2_ok : ∀ k, k < 0 → parseFieldDescriptor (TX2 k).2.2.1 = some (tyX2 k) := by decide +kernel
def RX3 : String := "LoshuHall$Givens"
def TX3 : u_T := fun k => match k with
  | _ => ("LoshuHall$Givens", "differences", "[I", true)
def tyX3 : Nat → FieldType := fun k => match k with
  | _ => .array .int
theorem nmX3 : ∀ a, a < 1 → ∀ b, b < 1 → a ≠ b → (TX3 a).2.1 ≠ (TX3 b).2.1 := by decide +kernel
theorem tyX3_ok : ∀ k, k < 1 → parseFieldDescriptor (TX3 k).2.2.1 = some (tyX3 k) := by decide +kernel
abbrev cX3_init : ByteArray := prog_5_method_1_code
def yX3_init : MethodName := ⟨RX3, "<init>", "()V"⟩
def RX4 : String := "LoshuHall$Laws"
def TX4 : u_T := fun k => match k with
  | _ => ("", "", "", false)
def tyX4 : Nat → FieldType := fun k => match k with
  | _ => .int
theorem nmX4 : ∀ a, a < 0 → ∀ b, b < 0 → a ≠ b → (TX4 a).2.1 ≠ (TX4 b).2.1 := by decide +kernel
theorem tyX4_ok : ∀ k, k < 0 → parseFieldDescriptor (TX4 k).2.2.1 = some (tyX4 k) := by decide +kernel
def RX5 : String := "LoshuHall$Makers"
def TX5 : u_T := fun k => match k with
  | _ => ("", "", "", false)
def tyX5 : Nat → FieldType := fun k => match k with
  | _ => .int
theorem nmX5 : ∀ a, a < 0 → ∀ b, b < 0 → a ≠ b → (TX5 a).2.1 ≠ (TX5 b).2.1 := by decide +kernel
theorem tyX5_ok : ∀ k, k < 0 → parseFieldDescriptor (TX5 k).2.2.1 = some (tyX5 k) := by decide +kernel
abbrev cX5_holdsFor : ByteArray := prog_7_method_2_code
def yX5_holdsFor : MethodName := ⟨RX5, "holdsFor", "(II)Z"⟩
abbrev cX5_lay : ByteArray := prog_7_method_3_code
def yX5_lay : MethodName := ⟨RX5, "lay", "(ILLoshuHall$Figure;LLoshuHall$Figure;)V"⟩
abbrev cX5_laySiege : ByteArray := prog_7_method_4_code
def yX5_laySiege : MethodName := ⟨RX5, "laySiege", "(LLoshuHall$Figure;)V"⟩
abbrev cX5_layCross : ByteArray := prog_7_method_5_code
def yX5_layCross : MethodName := ⟨RX5, "layCross", "(LLoshuHall$Figure;)V"⟩
abbrev cX5_layDigits : ByteArray := prog_7_method_6_code
def yX5_layDigits : MethodName := ⟨RX5, "layDigits", "(LLoshuHall$Figure;)V"⟩
abbrev cX5_layLux : ByteArray := prog_7_method_7_code
def yX5_layLux : MethodName := ⟨RX5, "layLux", "(LLoshuHall$Figure;LLoshuHall$Figure;)V"⟩
def RX6 : String := "LoshuHall$Pairs"
def TX6 : u_T := fun k => match k with
  | _ => ("", "", "", false)
def tyX6 : Nat → FieldType := fun k => match k with
  | _ => .int
theorem nmX6 : ∀ a, a < 0 → ∀ b, b < 0 → a ≠ b → (TX6 a).2.1 ≠ (TX6 b).2.1 := by decide +kernel
theorem tyX6_ok : ∀ k, k < 0 → parseFieldDescriptor (TX6 k).2.2.1 = some (tyX6 k) := by decide +kernel
def RX7 : String := "LoshuHall$Places"
def TX7 : u_T := fun k => match k with
  | _ => ("", "", "", false)
def tyX7 : Nat → FieldType := fun k => match k with
  | _ => .int
theorem nmX7 : ∀ a, a < 0 → ∀ b, b < 0 → a ≠ b → (TX7 a).2.1 ≠ (TX7 b).2.1 := by decide +kernel
theorem tyX7_ok : ∀ k, k < 0 → parseFieldDescriptor (TX7 k).2.2.1 = some (tyX7 k) := by decide +kernel
abbrev cX7_of : ByteArray := prog_9_method_2_code
def yX7_of : MethodName := ⟨RX7, "of", "(III)I"⟩
abbrev cX7_rowOf : ByteArray := prog_9_method_3_code
def yX7_rowOf : MethodName := ⟨RX7, "rowOf", "(II)I"⟩
abbrev cX7_columnOf : ByteArray := prog_9_method_4_code
def yX7_columnOf : MethodName := ⟨RX7, "columnOf", "(II)I"⟩
abbrev cX7_wrap : ByteArray := prog_9_method_5_code
def yX7_wrap : MethodName := ⟨RX7, "wrap", "(II)I"⟩
abbrev cX7_aheadOfTurn : ByteArray := prog_9_method_7_code
def yX7_aheadOfTurn : MethodName := ⟨RX7, "aheadOfTurn", "(III)I"⟩
abbrev cX7_aheadOfFlip : ByteArray := prog_9_method_8_code
def yX7_aheadOfFlip : MethodName := ⟨RX7, "aheadOfFlip", "(III)I"⟩
abbrev cX7_aheadOfShift : ByteArray := prog_9_method_9_code
def yX7_aheadOfShift : MethodName := ⟨RX7, "aheadOfShift", "(IIII)I"⟩
abbrev cX7_aheadOfPairs : ByteArray := prog_9_method_10_code
def yX7_aheadOfPairs : MethodName := ⟨RX7, "aheadOfPairs", "(III)I"⟩
abbrev cX7_swapped : ByteArray := prog_9_method_11_code
def yX7_swapped : MethodName := ⟨RX7, "swapped", "(III)I"⟩
def RX8 : String := "LoshuHall$Search"
def TX8 : u_T := fun k => match k with
  | 0 => ("LoshuHall$Search", "numbers", "[I", true)
  | 1 => ("LoshuHall$Search", "isUsed", "[Z", true)
  | 2 => ("LoshuHall$Search", "sums", "[I", true)
  | 3 => ("LoshuHall$Search", "lacks", "[I", true)
  | 4 => ("LoshuHall$Search", "linesAtPlaces", "[I", true)
  | 5 => ("LoshuHall$Search", "empties", "[I", true)
  | 6 => ("LoshuHall$Search", "emptyCount", "I", false)
  | 7 => ("LoshuHall$Search", "side", "I", false)
  | 8 => ("LoshuHall$Search", "due", "I", false)
  | 9 => ("LoshuHall$Search", "isClashing", "Z", false)
  | 10 => ("LoshuHall$Search", "wanted", "I", false)
  | 11 => ("LoshuHall$Search", "wantedPlace", "I", false)
  | 12 => ("LoshuHall$Search", "found", "I", false)
  | _ => ("LoshuHall$Search", "answer", "I", false)
def tyX8 : Nat → FieldType := fun k => match k with
  | 0 => .array .int
  | 1 => .array .boolean
  | 2 => .array .int
  | 3 => .array .int
  | 4 => .array .int
  | 5 => .array .int
  | 6 => .int
  | 7 => .int
  | 8 => .int
  | 9 => .boolean
  | 10 => .int
  | 11 => .int
  | 12 => .int
  | _ => .int
theorem nmX8 : ∀ a, a < 14 → ∀ b, b < 14 → a ≠ b → (TX8 a).2.1 ≠ (TX8 b).2.1 := by decide +kernel
theorem tyX8_ok : ∀ k, k < 14 → parseFieldDescriptor (TX8 k).2.2.1 = some (tyX8 k) := by decide +kernel
abbrev cX8_init : ByteArray := prog_10_method_1_code
def yX8_init : MethodName := ⟨RX8, "<init>", "()V"⟩
abbrev cX8_load : ByteArray := prog_10_method_2_code
def yX8_load : MethodName := ⟨RX8, "load", "(LLoshuHall$Figure;)V"⟩
abbrev cX8_begin : ByteArray := prog_10_method_3_code
def yX8_begin : MethodName := ⟨RX8, "begin", "(I)V"⟩
abbrev cX8_lineThrough : ByteArray := prog_10_method_4_code
def yX8_lineThrough : MethodName := ⟨RX8, "lineThrough", "(II)I"⟩
abbrev cX8_addEmpty : ByteArray := prog_10_method_5_code
def yX8_addEmpty : MethodName := ⟨RX8, "addEmpty", "(I)V"⟩
abbrev cX8_countAll : ByteArray := prog_10_method_6_code
def yX8_countAll : MethodName := ⟨RX8, "countAll", "()I"⟩
abbrev cX8_numberIn : ByteArray := prog_10_method_7_code
def yX8_numberIn : MethodName := ⟨RX8, "numberIn", "(II)I"⟩
abbrev cX8_seek : ByteArray := prog_10_method_8_code
def yX8_seek : MethodName := ⟨RX8, "seek", "(II)V"⟩
abbrev cX8_fillFrom : ByteArray := prog_10_method_9_code
def yX8_fillFrom : MethodName := ⟨RX8, "fillFrom", "(LLoshuHall$Search;I)V"⟩
abbrev cX8_meet : ByteArray := prog_10_method_10_code
def yX8_meet : MethodName := ⟨RX8, "meet", "()V"⟩
abbrev cX8_fits : ByteArray := prog_10_method_14_code
def yX8_fits : MethodName := ⟨RX8, "fits", "()Z"⟩
abbrev cX8_lowestAt : ByteArray := prog_10_method_15_code
def yX8_lowestAt : MethodName := ⟨RX8, "lowestAt", "(I)I"⟩
abbrev cX8_highestAt : ByteArray := prog_10_method_16_code
def yX8_highestAt : MethodName := ⟨RX8, "highestAt", "(I)I"⟩
abbrev cX8_lay : ByteArray := prog_10_method_17_code
def yX8_lay : MethodName := ⟨RX8, "lay", "(II)V"⟩
abbrev cX8_lift : ByteArray := prog_10_method_18_code
def yX8_lift : MethodName := ⟨RX8, "lift", "(II)V"⟩
abbrev cX8_tally : ByteArray := prog_10_method_19_code
def yX8_tally : MethodName := ⟨RX8, "tally", "(III)V"⟩
abbrev cX8_lineAt : ByteArray := prog_10_method_20_code
def yX8_lineAt : MethodName := ⟨RX8, "lineAt", "(II)I"⟩
abbrev cX8_isLine : ByteArray := prog_10_method_21_code
def yX8_isLine : MethodName := ⟨RX8, "isLine", "(I)Z"⟩
abbrev cX8_isFree : ByteArray := prog_10_method_22_code
def yX8_isFree : MethodName := ⟨RX8, "isFree", "(I)Z"⟩
def RX9 : String := "LoshuHall$Slips"
def TX9 : u_T := fun k => match k with
  | _ => ("", "", "", false)
def tyX9 : Nat → FieldType := fun k => match k with
  | _ => .int
theorem nmX9 : ∀ a, a < 0 → ∀ b, b < 0 → a ≠ b → (TX9 a).2.1 ≠ (TX9 b).2.1 := by decide +kernel
theorem tyX9_ok : ∀ k, k < 0 → parseFieldDescriptor (TX9 k).2.2.1 = some (tyX9 k) := by decide +kernel
def RX10 : String := "LoshuHall$Space"
def TX10 : u_T := fun k => match k with
  | 0 => ("LoshuHall$Space", "rows", "[[I", true)
  | 1 => ("LoshuHall$Space", "leads", "[I", true)
  | 2 => ("LoshuHall$Space", "row", "[I", true)
  | 3 => ("LoshuHall$Space", "rank", "I", false)
  | _ => ("LoshuHall$Space", "side", "I", false)
def tyX10 : Nat → FieldType := fun k => match k with
  | 0 => .array (.array .int)
  | 1 => .array .int
  | 2 => .array .int
  | 3 => .int
  | _ => .int
theorem nmX10 : ∀ a, a < 5 → ∀ b, b < 5 → a ≠ b → (TX10 a).2.1 ≠ (TX10 b).2.1 := by decide +kernel
theorem tyX10_ok : ∀ k, k < 5 → parseFieldDescriptor (TX10 k).2.2.1 = some (tyX10 k) := by decide +kernel
abbrev cX10_init : ByteArray := prog_12_method_1_code
def yX10_init : MethodName := ⟨RX10, "<init>", "()V"⟩
def RX11 : String := "LoshuHall"
def TX11 : u_T := fun k => match k with
  | 0 => ("LoshuHall", "figures", "[LLoshuHall$Figure;", true)
  | 1 => ("LoshuHall", "spare", "LLoshuHall$Figure;", true)
  | 2 => ("LoshuHall", "search", "LLoshuHall$Search;", true)
  | 3 => ("LoshuHall", "givensFinder", "LLoshuHall$Givens;", true)
  | 4 => ("LoshuHall", "space", "LLoshuHall$Space;", true)
  | _ => ("LoshuHall", "figureCount", "I", false)
def tyX11 : Nat → FieldType := fun k => match k with
  | 0 => .array (.object "LoshuHall$Figure")
  | 1 => .object "LoshuHall$Figure"
  | 2 => .object "LoshuHall$Search"
  | 3 => .object "LoshuHall$Givens"
  | 4 => .object "LoshuHall$Space"
  | _ => .int
theorem nmX11 : ∀ a, a < 6 → ∀ b, b < 6 → a ≠ b → (TX11 a).2.1 ≠ (TX11 b).2.1 := by decide +kernel
theorem tyX11_ok : ∀ k, k < 6 → parseFieldDescriptor (TX11 k).2.2.1 = some (tyX11 k) := by decide +kernel
abbrev cX11_init : ByteArray := prog_1_method_1_code
def yX11_init : MethodName := ⟨RX11, "<init>", "()V"⟩
abbrev cX11_put : ByteArray := prog_1_method_3_code
def yX11_put : MethodName := ⟨RX11, "put", "(IIII)I"⟩
abbrev cX11_at : ByteArray := prog_1_method_4_code
def yX11_at : MethodName := ⟨RX11, "at", "(III)I"⟩
abbrev cX11_make : ByteArray := prog_1_method_5_code
def yX11_make : MethodName := ⟨RX11, "make", "(II)I"⟩
abbrev cX11_change : ByteArray := prog_1_method_8_code
def yX11_change : MethodName := ⟨RX11, "change", "(III)I"⟩
abbrev cX11_completions : ByteArray := prog_1_method_13_code
def yX11_completions : MethodName := ⟨RX11, "completions", "(I)I"⟩
abbrev cX11_completion : ByteArray := prog_1_method_14_code
def yX11_completion : MethodName := ⟨RX11, "completion", "(IIII)I"⟩
abbrev cX11_requireRange : ByteArray := prog_1_method_23_code
def yX11_requireRange : MethodName := ⟨RX11, "requireRange", "(III)V"⟩
abbrev cX11_requirePoint : ByteArray := prog_1_method_24_code
def yX11_requirePoint : MethodName := ⟨RX11, "requirePoint", "(LLoshuHall$Figure;II)V"⟩
abbrev cX11_requireState : ByteArray := prog_1_method_25_code
def yX11_requireState : MethodName := ⟨RX11, "requireState", "(Z)V"⟩
abbrev cX11_requireRoom : ByteArray := prog_1_method_26_code
def yX11_requireRoom : MethodName := ⟨RX11, "requireRoom", "()V"⟩
abbrev cX11_canBeCompleted : ByteArray := prog_1_method_27_code
def yX11_canBeCompleted : MethodName := ⟨RX11, "canBeCompleted", "(LLoshuHall$Figure;)Z"⟩
abbrev cX11_figureOf : ByteArray := prog_1_method_28_code
def yX11_figureOf : MethodName := ⟨RX11, "figureOf", "(I)LLoshuHall$Figure;"⟩
abbrev cX11_addFigure : ByteArray := prog_1_method_29_code
def yX11_addFigure : MethodName := ⟨RX11, "addFigure", "(I)I"⟩
def RX12 : String := "LoshuHallModel"
def TX12 : u_T := fun k => match k with
  | _ => ("", "", "", false)
def tyX12 : Nat → FieldType := fun k => match k with
  | _ => .int
theorem nmX12 : ∀ a, a < 0 → ∀ b, b < 0 → a ≠ b → (TX12 a).2.1 ≠ (TX12 b).2.1 := by decide +kernel
theorem tyX12_ok : ∀ k, k < 0 → parseFieldDescriptor (TX12 k).2.2.1 = some (tyX12 k) := by decide +kernel
def RJ9 : String := "java/lang/Math"
def TJ9 : u_T := fun k => match k with
  | _ => ("", "", "", false)
def tyJ9 : Nat → FieldType := fun k => match k with
  | _ => .int
theorem nmJ9 : ∀ a, a < 0 → ∀ b, b < 0 → a ≠ b → (TJ9 a).2.1 ≠ (TJ9 b).2.1 := by decide +kernel
theorem tyJ9_ok : ∀ k, k < 0 → parseFieldDescriptor (TJ9 k).2.2.1 = some (tyJ9 k) := by decide +kernel
abbrev cJ9_floorMod_7cf53 : ByteArray := prog_19_method_50_code
def yJ9_floorMod_7cf53 : MethodName := ⟨RJ9, "floorMod", "(II)I"⟩
abbrev cJ9_max_7cf53 : ByteArray := prog_19_method_65_code
def yJ9_max_7cf53 : MethodName := ⟨RJ9, "max", "(II)I"⟩
abbrev cJ9_min_7cf53 : ByteArray := prog_19_method_69_code
def yJ9_min_7cf53 : MethodName := ⟨RJ9, "min", "(II)I"⟩
def RJ0 : String := "java/lang/String"
def TJ0 : u_T := fun k => match k with
  | _ => ("", "", "", false)
def tyJ0 : Nat → FieldType := fun k => match k with
  | _ => .int
theorem nmJ0 : ∀ a, a < 0 → ∀ b, b < 0 → a ≠ b → (TJ0 a).2.1 ≠ (TJ0 b).2.1 := by decide +kernel
theorem tyJ0_ok : ∀ k, k < 0 → parseFieldDescriptor (TJ0 k).2.2.1 = some (tyJ0 k) := by decide +kernel
def RL : String := "LoshuHallLaw"
abbrev cL_told : ByteArray := method_2_code
def yL_told : MethodName := ⟨RL, "told", "([II)I"⟩
abbrev cL_isSum : ByteArray := method_3_code
def yL_isSum : MethodName := ⟨RL, "isSum", "([IIII)Z"⟩
abbrev cL_isRight : ByteArray := method_4_code
def yL_isRight : MethodName := ⟨RL, "isRight", "([II)Z"⟩
abbrev cL_compare : ByteArray := method_5_code
def yL_compare : MethodName := ⟨RL, "compare", "([I[II)I"⟩
abbrev cL_areCompletions : ByteArray := method_6_code
def yL_areCompletions : MethodName := ⟨RL, "areCompletions", "(LLoshuHall;II[II)Z"⟩
abbrev cL_law : ByteArray := code
def yL_law : MethodName := ⟨RL, "law", "([I)Z"⟩
abbrev vwCl : List vw_C := [(RX1, TX1, 2), (RX3, TX3, 1), (RX8, TX8, 14), (RX10, TX10, 5), (RX11, TX11, 6)]
