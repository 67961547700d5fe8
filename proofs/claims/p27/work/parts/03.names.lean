/-! ===== BEGIN printed: names, fields, word lists, decode rows ===== -/
def RX0 : String := "CountSheets$LineRows"
def TX0 : u_T := fun k => match k with
  | 0 => ("CountSheets$LineRows", "persons", "[I", true)
  | 1 => ("CountSheets$LineRows", "first", "[I", true)
  | 2 => ("CountSheets$LineRows", "second", "[I", true)
  | 3 => ("CountSheets$LineRows", "agreement", "[I", true)
  | 4 => ("CountSheets$LineRows", "signature", "[I", true)
  | 5 => ("CountSheets$LineRows", "signedGap", "[I", true)
  | _ => ("CountSheets$LineRows", "signatures", "I", false)
def tyX0 : Nat → FieldType := fun k => match k with
  | 0 => .array .int
  | 1 => .array .int
  | 2 => .array .int
  | 3 => .array .int
  | 4 => .array .int
  | 5 => .array .int
  | _ => .int
abbrev wsX00 : List Cond := u_ws RX0 TX0 7
theorem nmX0 : ∀ a, a < 7 → ∀ b, b < 7 → a ≠ b → (TX0 a).2.1 ≠ (TX0 b).2.1 := by decide +kernel
theorem tyX0_ok : ∀ k, k < 7 → parseFieldDescriptor (TX0 k).2.2.1 = some (tyX0 k) := by decide +kernel
abbrev cX0_init : ByteArray := prog_2_method_1_code
def yX0_init : MethodName := ⟨RX0, "<init>", "()V"⟩
abbrev cX0_countsOn : ByteArray := prog_2_method_2_code
def yX0_countsOn : MethodName := ⟨RX0, "countsOn", "(I)I"⟩
abbrev cX0_isCountedBy : ByteArray := prog_2_method_3_code
def yX0_isCountedBy : MethodName := ⟨RX0, "isCountedBy", "(II)Z"⟩
abbrev cX0_agrees : ByteArray := prog_2_method_4_code
def yX0_agrees : MethodName := ⟨RX0, "agrees", "(I)Z"⟩
abbrev cX0_hasSign : ByteArray := prog_2_method_5_code
def yX0_hasSign : MethodName := ⟨RX0, "hasSign", "(I)Z"⟩
abbrev cX0_add : ByteArray := prog_2_method_6_code
def yX0_add : MethodName := ⟨RX0, "add", "(III)V"⟩
abbrev cX0_middleOf : ByteArray := prog_2_method_7_code
def yX0_middleOf : MethodName := ⟨RX0, "middleOf", "(III)I"⟩
abbrev cX0_write : ByteArray := prog_2_method_8_code
def yX0_write : MethodName := ⟨RX0, "write", "(II)V"⟩
def RX1 : String := "CountSheets$MoveRows"
def TX1 : u_T := fun k => match k with
  | 0 => ("CountSheets$MoveRows", "from", "[I", true)
  | 1 => ("CountSheets$MoveRows", "to", "[I", true)
  | 2 => ("CountSheets$MoveRows", "article", "[I", true)
  | 3 => ("CountSheets$MoveRows", "quantity", "[I", true)
  | 4 => ("CountSheets$MoveRows", "minute", "[I", true)
  | _ => ("CountSheets$MoveRows", "size", "I", false)
def tyX1 : Nat → FieldType := fun k => match k with
  | 0 => .array .int
  | 1 => .array .int
  | 2 => .array .int
  | 3 => .array .int
  | 4 => .array .int
  | _ => .int
abbrev wsX10 : List Cond := u_ws RX1 TX1 6
theorem nmX1 : ∀ a, a < 6 → ∀ b, b < 6 → a ≠ b → (TX1 a).2.1 ≠ (TX1 b).2.1 := by decide +kernel
theorem tyX1_ok : ∀ k, k < 6 → parseFieldDescriptor (TX1 k).2.2.1 = some (tyX1 k) := by decide +kernel
abbrev cX1_init : ByteArray := prog_3_method_1_code
def yX1_init : MethodName := ⟨RX1, "<init>", "()V"⟩
abbrev cX1_add : ByteArray := prog_3_method_2_code
def yX1_add : MethodName := ⟨RX1, "add", "(IIIII)I"⟩
abbrev cX1_brought : ByteArray := prog_3_method_3_code
def yX1_brought : MethodName := ⟨RX1, "brought", "(IIII)I"⟩
def RX2 : String := "CountSheets$SheetRows"
def TX2 : u_T := fun k => match k with
  | 0 => ("CountSheets$SheetRows", "place", "[I", true)
  | 1 => ("CountSheets$SheetRows", "cut", "[I", true)
  | 2 => ("CountSheets$SheetRows", "closed", "[Z", true)
  | _ => ("CountSheets$SheetRows", "size", "I", false)
def tyX2 : Nat → FieldType := fun k => match k with
  | 0 => .array .int
  | 1 => .array .int
  | 2 => .array .boolean
  | _ => .int
abbrev wsX20 : List Cond := u_ws RX2 TX2 4
theorem nmX2 : ∀ a, a < 4 → ∀ b, b < 4 → a ≠ b → (TX2 a).2.1 ≠ (TX2 b).2.1 := by decide +kernel
theorem tyX2_ok : ∀ k, k < 4 → parseFieldDescriptor (TX2 k).2.2.1 = some (tyX2 k) := by decide +kernel
abbrev cX2_init : ByteArray := prog_4_method_1_code
def yX2_init : MethodName := ⟨RX2, "<init>", "()V"⟩
abbrev cX2_add : ByteArray := prog_4_method_2_code
def yX2_add : MethodName := ⟨RX2, "add", "(II)I"⟩
abbrev cX2_isOpenFor : ByteArray := prog_4_method_3_code
def yX2_isOpenFor : MethodName := ⟨RX2, "isOpenFor", "(I)Z"⟩
abbrev cX2_latestFor : ByteArray := prog_4_method_4_code
def yX2_latestFor : MethodName := ⟨RX2, "latestFor", "(I)I"⟩
def RX3 : String := "CountSheets"
def TX3 : u_T := fun k => match k with
  | 0 => ("CountSheets", "prices", "[I", true)
  | 1 => ("CountSheets", "bounds", "[I", true)
  | 2 => ("CountSheets", "moveRows", "LCountSheets$MoveRows;", true)
  | 3 => ("CountSheets", "sheetRows", "LCountSheets$SheetRows;", true)
  | 4 => ("CountSheets", "lineRows", "LCountSheets$LineRows;", true)
  | _ => ("CountSheets", "minuteNow", "I", false)
def tyX3 : Nat → FieldType := fun k => match k with
  | 0 => .array .int
  | 1 => .array .int
  | 2 => .object "CountSheets$MoveRows"
  | 3 => .object "CountSheets$SheetRows"
  | 4 => .object "CountSheets$LineRows"
  | _ => .int
abbrev wsX30 : List Cond := u_ws RX3 TX3 6
theorem nmX3 : ∀ a, a < 6 → ∀ b, b < 6 → a ≠ b → (TX3 a).2.1 ≠ (TX3 b).2.1 := by decide +kernel
theorem tyX3_ok : ∀ k, k < 6 → parseFieldDescriptor (TX3 k).2.2.1 = some (tyX3 k) := by decide +kernel
abbrev cX3_init : ByteArray := prog_1_method_1_code
def yX3_init : MethodName := ⟨RX3, "<init>", "()V"⟩
abbrev cX3_setPrice : ByteArray := prog_1_method_2_code
def yX3_setPrice : MethodName := ⟨RX3, "setPrice", "(II)I"⟩
abbrev cX3_setBound : ByteArray := prog_1_method_3_code
def yX3_setBound : MethodName := ⟨RX3, "setBound", "(II)I"⟩
abbrev cX3_move : ByteArray := prog_1_method_4_code
def yX3_move : MethodName := ⟨RX3, "move", "(IIIII)I"⟩
abbrev cX3_pass : ByteArray := prog_1_method_5_code
def yX3_pass : MethodName := ⟨RX3, "pass", "(I)I"⟩
abbrev cX3_open : ByteArray := prog_1_method_6_code
def yX3_open : MethodName := ⟨RX3, "open", "(I)I"⟩
abbrev cX3_count : ByteArray := prog_1_method_7_code
def yX3_count : MethodName := ⟨RX3, "count", "(IIII)Z"⟩
abbrev cX3_close : ByteArray := prog_1_method_8_code
def yX3_close : MethodName := ⟨RX3, "close", "(I)I"⟩
abbrev cX3_sign : ByteArray := prog_1_method_9_code
def yX3_sign : MethodName := ⟨RX3, "sign", "(III)I"⟩
abbrev cX3_settle : ByteArray := prog_1_method_10_code
def yX3_settle : MethodName := ⟨RX3, "settle", "(III)I"⟩
abbrev cX3_now : ByteArray := prog_1_method_11_code
def yX3_now : MethodName := ⟨RX3, "now", "()I"⟩
abbrev cX3_moves : ByteArray := prog_1_method_12_code
def yX3_moves : MethodName := ⟨RX3, "moves", "()I"⟩
abbrev cX3_book : ByteArray := prog_1_method_13_code
def yX3_book : MethodName := ⟨RX3, "book", "(II)I"⟩
abbrev cX3_bookAt : ByteArray := prog_1_method_14_code
def yX3_bookAt : MethodName := ⟨RX3, "bookAt", "(III)I"⟩
abbrev cX3_worth : ByteArray := prog_1_method_15_code
def yX3_worth : MethodName := ⟨RX3, "worth", "(I)I"⟩
abbrev cX3_suggested : ByteArray := prog_1_method_16_code
def yX3_suggested : MethodName := ⟨RX3, "suggested", "()I"⟩
abbrev cX3_sheets : ByteArray := prog_1_method_17_code
def yX3_sheets : MethodName := ⟨RX3, "sheets", "()I"⟩
abbrev cX3_stateOf : ByteArray := prog_1_method_18_code
def yX3_stateOf : MethodName := ⟨RX3, "stateOf", "(I)I"⟩
abbrev cX3_cutOf : ByteArray := prog_1_method_19_code
def yX3_cutOf : MethodName := ⟨RX3, "cutOf", "(I)I"⟩
abbrev cX3_counts : ByteArray := prog_1_method_20_code
def yX3_counts : MethodName := ⟨RX3, "counts", "(II)I"⟩
abbrev cX3_agreed : ByteArray := prog_1_method_21_code
def yX3_agreed : MethodName := ⟨RX3, "agreed", "(II)I"⟩
abbrev cX3_gap : ByteArray := prog_1_method_22_code
def yX3_gap : MethodName := ⟨RX3, "gap", "(II)I"⟩
abbrev cX3_isSigned : ByteArray := prog_1_method_23_code
def yX3_isSigned : MethodName := ⟨RX3, "isSigned", "(II)Z"⟩
abbrev cX3_likely : ByteArray := prog_1_method_24_code
def yX3_likely : MethodName := ⟨RX3, "likely", "(II)I"⟩
abbrev cX3_exact : ByteArray := prog_1_method_25_code
def yX3_exact : MethodName := ⟨RX3, "exact", "(I)I"⟩
abbrev cX3_checkIndex : ByteArray := prog_1_method_26_code
def yX3_checkIndex : MethodName := ⟨RX3, "checkIndex", "(II)V"⟩
abbrev cX3_checkPlaceOrOutside : ByteArray := prog_1_method_27_code
def yX3_checkPlaceOrOutside : MethodName := ⟨RX3, "checkPlaceOrOutside", "(I)V"⟩
abbrev cX3_checkRange : ByteArray := prog_1_method_28_code
def yX3_checkRange : MethodName := ⟨RX3, "checkRange", "(III)V"⟩
abbrev cX3_checkLine : ByteArray := prog_1_method_29_code
def yX3_checkLine : MethodName := ⟨RX3, "checkLine", "(II)V"⟩
abbrev cX3_checkAgrees : ByteArray := prog_1_method_30_code
def yX3_checkAgrees : MethodName := ⟨RX3, "checkAgrees", "(II)V"⟩
abbrev cX3_lineOf : ByteArray := prog_1_method_31_code
def yX3_lineOf : MethodName := ⟨RX3, "lineOf", "(II)I"⟩
abbrev cX3_bookOf : ByteArray := prog_1_method_32_code
def yX3_bookOf : MethodName := ⟨RX3, "bookOf", "(III)I"⟩
abbrev cX3_signedSheetFor : ByteArray := prog_1_method_33_code
def yX3_signedSheetFor : MethodName := ⟨RX3, "signedSheetFor", "(III)I"⟩
abbrev cX3_isStronger : ByteArray := prog_1_method_34_code
def yX3_isStronger : MethodName := ⟨RX3, "isStronger", "(III)Z"⟩
abbrev cX3_worthOf : ByteArray := prog_1_method_35_code
def yX3_worthOf : MethodName := ⟨RX3, "worthOf", "(I)I"⟩
abbrev cX3_urgencyOf : ByteArray := prog_1_method_36_code
def yX3_urgencyOf : MethodName := ⟨RX3, "urgencyOf", "(I)J"⟩
abbrev cX3_gapOf : ByteArray := prog_1_method_37_code
def yX3_gapOf : MethodName := ⟨RX3, "gapOf", "(II)I"⟩
abbrev cX3_isSignable : ByteArray := prog_1_method_38_code
def yX3_isSignable : MethodName := ⟨RX3, "isSignable", "(II)Z"⟩
abbrev cX3_canBeSettled : ByteArray := prog_1_method_39_code
def yX3_canBeSettled : MethodName := ⟨RX3, "canBeSettled", "(III)Z"⟩
def RX4 : String := "CountSheetsModel"
def TX4 : u_T := fun k => match k with
  | _ => ("", "", "", false)
def tyX4 : Nat → FieldType := fun k => match k with
  | _ => .int
abbrev wsX40 : List Cond := u_ws RX4 TX4 0
theorem nmX4 : ∀ a, a < 0 → ∀ b, b < 0 → a ≠ b → (TX4 a).2.1 ≠ (TX4 b).2.1 := by decide +kernel
theorem tyX4_ok : ∀ k, k < 0 → parseFieldDescriptor (TX4 k).2.2.1 = some (tyX4 k) := by decide +kernel
def RJx145de : String := "java/io/Serializable"
def TJx145de : u_T := fun k => match k with
  | _ => ("", "", "", false)
def tyJx145de : Nat → FieldType := fun k => match k with
  | _ => .int
abbrev wsJx145de0 : List Cond := u_ws RJx145de TJx145de 0
theorem nmJx145de : ∀ a, a < 0 → ∀ b, b < 0 → a ≠ b → (TJx145de a).2.1 ≠ (TJx145de b).2.1 := by decide +kernel
theorem tyJx145de_ok : ∀ k, k < 0 → parseFieldDescriptor (TJx145de k).2.2.1 = some (tyJx145de k) := by decide +kernel
def RJ6 : String := "java/lang/Integer"
def TJ6 : u_T := fun k => match k with
  | _ => ("", "", "", false)
def tyJ6 : Nat → FieldType := fun k => match k with
  | _ => .int
abbrev wsJ60 : List Cond := u_ws RJ6 TJ6 0
theorem nmJ6 : ∀ a, a < 0 → ∀ b, b < 0 → a ≠ b → (TJ6 a).2.1 ≠ (TJ6 b).2.1 := by decide +kernel
theorem tyJ6_ok : ∀ k, k < 0 → parseFieldDescriptor (TJ6 k).2.2.1 = some (tyJ6 k) := by decide +kernel
abbrev cJ6_bitCount_0f7a4 : ByteArray := prog_12_method_49_code
def yJ6_bitCount_0f7a4 : MethodName := ⟨RJ6, "bitCount", "(I)I"⟩
def RJ9 : String := "java/lang/Math"
def TJ9 : u_T := fun k => match k with
  | _ => ("", "", "", false)
def tyJ9 : Nat → FieldType := fun k => match k with
  | _ => .int
abbrev wsJ90 : List Cond := u_ws RJ9 TJ9 0
theorem nmJ9 : ∀ a, a < 0 → ∀ b, b < 0 → a ≠ b → (TJ9 a).2.1 ≠ (TJ9 b).2.1 := by decide +kernel
theorem tyJ9_ok : ∀ k, k < 0 → parseFieldDescriptor (TJ9 k).2.2.1 = some (tyJ9 k) := by decide +kernel
abbrev cJ9_abs_0f7a4 : ByteArray := prog_13_method_59_code
def yJ9_abs_0f7a4 : MethodName := ⟨RJ9, "abs", "(I)I"⟩
abbrev cJ9_max_7cf53 : ByteArray := prog_13_method_65_code
def yJ9_max_7cf53 : MethodName := ⟨RJ9, "max", "(II)I"⟩
abbrev cJ9_min_7cf53 : ByteArray := prog_13_method_69_code
def yJ9_min_7cf53 : MethodName := ⟨RJ9, "min", "(II)I"⟩
def RJ0 : String := "java/lang/String"
def TJ0 : u_T := fun k => match k with
  | _ => ("", "", "", false)
def tyJ0 : Nat → FieldType := fun k => match k with
  | _ => .int
abbrev wsJ00 : List Cond := u_ws RJ0 TJ0 0
theorem nmJ0 : ∀ a, a < 0 → ∀ b, b < 0 → a ≠ b → (TJ0 a).2.1 ≠ (TJ0 b).2.1 := by decide +kernel
theorem tyJ0_ok : ∀ k, k < 0 → parseFieldDescriptor (TJ0 k).2.2.1 = some (tyJ0 k) := by decide +kernel
def RJ7 : String := "java/util/Arrays"
def TJ7 : u_T := fun k => match k with
  | _ => ("", "", "", false)
def tyJ7 : Nat → FieldType := fun k => match k with
  | _ => .int
abbrev wsJ70 : List Cond := u_ws RJ7 TJ7 0
theorem nmJ7 : ∀ a, a < 0 → ∀ b, b < 0 → a ≠ b → (TJ7 a).2.1 ≠ (TJ7 b).2.1 := by decide +kernel
theorem tyJ7_ok : ∀ k, k < 0 → parseFieldDescriptor (TJ7 k).2.2.1 = some (tyJ7 k) := by decide +kernel
abbrev cJ7_fill_53178 : ByteArray := prog_17_method_103_code
def yJ7_fill_53178 : MethodName := ⟨RJ7, "fill", "([II)V"⟩
def RL : String := "CountSheetsLaw"
abbrev cL_at : ByteArray := method_2_code
def yL_at : MethodName := ⟨RL, "at", "([II)I"⟩
abbrev cL_low : ByteArray := method_3_code
def yL_low : MethodName := ⟨RL, "low", "(II)I"⟩
abbrev cL_setPrice : ByteArray := method_4_code
def yL_setPrice : MethodName := ⟨RL, "setPrice", "(LCountSheets;II)I"⟩
abbrev cL_setBound : ByteArray := method_5_code
def yL_setBound : MethodName := ⟨RL, "setBound", "(LCountSheets;II)I"⟩
abbrev cL_move : ByteArray := method_6_code
def yL_move : MethodName := ⟨RL, "move", "(LCountSheets;IIIII)I"⟩
abbrev cL_pass : ByteArray := method_7_code
def yL_pass : MethodName := ⟨RL, "pass", "(LCountSheets;I)I"⟩
abbrev cL_open : ByteArray := method_8_code
def yL_open : MethodName := ⟨RL, "open", "(LCountSheets;I)I"⟩
abbrev cL_count : ByteArray := method_9_code
def yL_count : MethodName := ⟨RL, "count", "(LCountSheets;IIII)I"⟩
abbrev cL_close : ByteArray := method_10_code
def yL_close : MethodName := ⟨RL, "close", "(LCountSheets;I)I"⟩
abbrev cL_sign : ByteArray := method_11_code
def yL_sign : MethodName := ⟨RL, "sign", "(LCountSheets;III)I"⟩
abbrev cL_settle : ByteArray := method_12_code
def yL_settle : MethodName := ⟨RL, "settle", "(LCountSheets;III)I"⟩
abbrev cL_book : ByteArray := method_13_code
def yL_book : MethodName := ⟨RL, "book", "(LCountSheets;II)I"⟩
abbrev cL_bookAt : ByteArray := method_14_code
def yL_bookAt : MethodName := ⟨RL, "bookAt", "(LCountSheets;III)I"⟩
abbrev cL_worth : ByteArray := method_15_code
def yL_worth : MethodName := ⟨RL, "worth", "(LCountSheets;I)I"⟩
abbrev cL_stateOf : ByteArray := method_16_code
def yL_stateOf : MethodName := ⟨RL, "stateOf", "(LCountSheets;I)I"⟩
abbrev cL_cutOf : ByteArray := method_17_code
def yL_cutOf : MethodName := ⟨RL, "cutOf", "(LCountSheets;I)I"⟩
abbrev cL_counts : ByteArray := method_18_code
def yL_counts : MethodName := ⟨RL, "counts", "(LCountSheets;II)I"⟩
abbrev cL_agreed : ByteArray := method_19_code
def yL_agreed : MethodName := ⟨RL, "agreed", "(LCountSheets;II)I"⟩
abbrev cL_gap : ByteArray := method_20_code
def yL_gap : MethodName := ⟨RL, "gap", "(LCountSheets;II)I"⟩
abbrev cL_isSigned : ByteArray := method_21_code
def yL_isSigned : MethodName := ⟨RL, "isSigned", "(LCountSheets;II)I"⟩
abbrev cL_likely : ByteArray := method_22_code
def yL_likely : MethodName := ⟨RL, "likely", "(LCountSheets;II)I"⟩
abbrev cL_exact : ByteArray := method_23_code
def yL_exact : MethodName := ⟨RL, "exact", "(LCountSheets;I)I"⟩
abbrev cL_size : ByteArray := method_24_code
def yL_size : MethodName := ⟨RL, "size", "(I)I"⟩
abbrev cL_print : ByteArray := method_25_code
def yL_print : MethodName := ⟨RL, "print", "(LCountSheets;)J"⟩
abbrev cL_places : ByteArray := method_26_code
def yL_places : MethodName := ⟨RL, "places", "(LCountSheets;[I[I[I)Z"⟩
abbrev cL_sheet : ByteArray := method_27_code
def yL_sheet : MethodName := ⟨RL, "sheet", "(LCountSheets;[I[I[II)Z"⟩
abbrev cL_isSo : ByteArray := method_28_code
def yL_isSo : MethodName := ⟨RL, "isSo", "(LCountSheets;[I[I[I[I[I)Z"⟩
abbrev cL_moves : ByteArray := method_29_code
def yL_moves : MethodName := ⟨RL, "moves", "(LCountSheets;LCountSheets;[III)Z"⟩
abbrev cL_signs : ByteArray := method_30_code
def yL_signs : MethodName := ⟨RL, "signs", "(LCountSheets;LCountSheets;[I[I[I[IIII)Z"⟩
abbrev cL_settles : ByteArray := method_31_code
def yL_settles : MethodName := ⟨RL, "settles", "(LCountSheets;LCountSheets;[I[I[I[IIII)Z"⟩
abbrev cL_acts : ByteArray := method_32_code
def yL_acts : MethodName := ⟨RL, "acts", "(LCountSheets;LCountSheets;[I[I[I[I[III)Z"⟩
abbrev cL_law : ByteArray := code
def yL_law : MethodName := ⟨RL, "law", "([I)Z"⟩
