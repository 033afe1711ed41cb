def RX0 : String := "Signtext$Line"
def TX0 : u_T := fun k => match k with
  | 0 => ("Signtext$Line", "codes", "[C", true)
  | _ => ("Signtext$Line", "count", "I", false)
def tyX0 : Nat → FieldType := fun k => match k with
  | 0 => .array .char
  | _ => .int
theorem nmX0 : ∀ a, a < 2 → ∀ b, b < 2 → a ≠ b → (TX0 a).2.1 ≠ (TX0 b).2.1 := by decide +kernel
theorem tyX0_ok : ∀ k, k < 2 → parseFieldDescriptor (TX0 k).2.2.1 = some (tyX0 k) := by decide +kernel
abbrev cX0_init : ByteArray := prog_2_method_1_code
def yX0_init : MethodName := ⟨RX0, "<init>", "()V"⟩
abbrev cX0_size : ByteArray := prog_2_method_2_code
def yX0_size : MethodName := ⟨RX0, "size", "()I"⟩
abbrev cX0_codeAt : ByteArray := prog_2_method_3_code
def yX0_codeAt : MethodName := ⟨RX0, "codeAt", "(I)I"⟩
abbrev cX0_empty : ByteArray := prog_2_method_4_code
def yX0_empty : MethodName := ⟨RX0, "empty", "()V"⟩
abbrev cX0_change : ByteArray := prog_2_method_5_code
def yX0_change : MethodName := ⟨RX0, "change", "(II)V"⟩
abbrev cX0_addCode : ByteArray := prog_2_method_6_code
def yX0_addCode : MethodName := ⟨RX0, "addCode", "(I)V"⟩
abbrev cX0_addPart : ByteArray := prog_2_method_7_code
def yX0_addPart : MethodName := ⟨RX0, "addPart", "(LSigntext$Line;II)V"⟩
abbrev cX0_addAll : ByteArray := prog_2_method_8_code
def yX0_addAll : MethodName := ⟨RX0, "addAll", "(LSigntext$Line;)V"⟩
abbrev cX0_addWord : ByteArray := prog_2_method_9_code
def yX0_addWord : MethodName := ⟨RX0, "addWord", "(Ljava/lang/String;)V"⟩
abbrev cX0_addNumber : ByteArray := prog_2_method_10_code
def yX0_addNumber : MethodName := ⟨RX0, "addNumber", "(J)V"⟩
abbrev cX0_become : ByteArray := prog_2_method_11_code
def yX0_become : MethodName := ⟨RX0, "become", "(LSigntext$Line;)V"⟩
abbrev cX0_asString : ByteArray := prog_2_method_12_code
def yX0_asString : MethodName := ⟨RX0, "asString", "()Ljava/lang/String;"⟩
abbrev cX0_hashOfSigns : ByteArray := prog_2_method_13_code
def yX0_hashOfSigns : MethodName := ⟨RX0, "hashOfSigns", "()I"⟩
abbrev cX0_isAllWhite : ByteArray := prog_2_method_14_code
def yX0_isAllWhite : MethodName := ⟨RX0, "isAllWhite", "()Z"⟩
abbrev cX0_trimmedBegin : ByteArray := prog_2_method_15_code
def yX0_trimmedBegin : MethodName := ⟨RX0, "trimmedBegin", "(Z)I"⟩
abbrev cX0_trimmedEnd : ByteArray := prog_2_method_16_code
def yX0_trimmedEnd : MethodName := ⟨RX0, "trimmedEnd", "(Z)I"⟩
abbrev cX0_goes : ByteArray := prog_2_method_17_code
def yX0_goes : MethodName := ⟨RX0, "goes", "(IZ)Z"⟩
abbrev cX0_seen : ByteArray := prog_2_method_18_code
def yX0_seen : MethodName := ⟨RX0, "seen", "(IZ)I"⟩
abbrev cX0_firstPlaceOfCode : ByteArray := prog_2_method_19_code
def yX0_firstPlaceOfCode : MethodName := ⟨RX0, "firstPlaceOfCode", "(II)I"⟩
abbrev cX0_lastPlaceOfCode : ByteArray := prog_2_method_20_code
def yX0_lastPlaceOfCode : MethodName := ⟨RX0, "lastPlaceOfCode", "(I)I"⟩
abbrev cX0_standsAt : ByteArray := prog_2_method_21_code
def yX0_standsAt : MethodName := ⟨RX0, "standsAt", "(LSigntext$Line;IZ)Z"⟩
abbrev cX0_firstPlaceOf : ByteArray := prog_2_method_22_code
def yX0_firstPlaceOf : MethodName := ⟨RX0, "firstPlaceOf", "(LSigntext$Line;)I"⟩
abbrev cX0_lastPlaceOf : ByteArray := prog_2_method_23_code
def yX0_lastPlaceOf : MethodName := ⟨RX0, "lastPlaceOf", "(LSigntext$Line;)I"⟩
abbrev cX0_holds : ByteArray := prog_2_method_24_code
def yX0_holds : MethodName := ⟨RX0, "holds", "(LSigntext$Line;)Z"⟩
abbrev cX0_isSameAs : ByteArray := prog_2_method_25_code
def yX0_isSameAs : MethodName := ⟨RX0, "isSameAs", "(LSigntext$Line;Z)Z"⟩
abbrev cX0_orderTo : ByteArray := prog_2_method_26_code
def yX0_orderTo : MethodName := ⟨RX0, "orderTo", "(LSigntext$Line;Z)I"⟩
def RX1 : String := "Signtext$Pieces"
def TX1 : u_T := fun k => match k with
  | 0 => ("Signtext$Pieces", "line", "LSigntext$Line;", true)
  | 1 => ("Signtext$Pieces", "ends", "[I", true)
  | _ => ("Signtext$Pieces", "count", "I", false)
def tyX1 : Nat → FieldType := fun k => match k with
  | 0 => .object "Signtext$Line"
  | 1 => .array .int
  | _ => .int
theorem nmX1 : ∀ a, a < 3 → ∀ b, b < 3 → a ≠ b → (TX1 a).2.1 ≠ (TX1 b).2.1 := by decide +kernel
theorem tyX1_ok : ∀ k, k < 3 → parseFieldDescriptor (TX1 k).2.2.1 = some (tyX1 k) := by decide +kernel
abbrev cX1_init : ByteArray := prog_3_method_1_code
def yX1_init : MethodName := ⟨RX1, "<init>", "()V"⟩
abbrev cX1_size : ByteArray := prog_3_method_2_code
def yX1_size : MethodName := ⟨RX1, "size", "()I"⟩
abbrev cX1_line : ByteArray := prog_3_method_3_code
def yX1_line : MethodName := ⟨RX1, "line", "()LSigntext$Line;"⟩
abbrev cX1_endOf : ByteArray := prog_3_method_4_code
def yX1_endOf : MethodName := ⟨RX1, "endOf", "(I)I"⟩
abbrev cX1_beginOf : ByteArray := prog_3_method_5_code
def yX1_beginOf : MethodName := ⟨RX1, "beginOf", "(I)I"⟩
abbrev cX1_cutOf : ByteArray := prog_3_method_6_code
def yX1_cutOf : MethodName := ⟨RX1, "cutOf", "(LSigntext$Line;)V"⟩
abbrev cX1_addEnd : ByteArray := prog_3_method_7_code
def yX1_addEnd : MethodName := ⟨RX1, "addEnd", "(I)V"⟩
def RX2 : String := "Signtext"
def TX2 : u_T := fun k => match k with
  | 0 => ("Signtext", "texts", "[LSigntext$Line;", true)
  | 1 => ("Signtext", "knownTexts", "[LSigntext$Line;", true)
  | 2 => ("Signtext", "row", "LSigntext$Line;", true)
  | 3 => ("Signtext", "pieces", "LSigntext$Pieces;", true)
  | 4 => ("Signtext", "knocks", "I", false)
  | 5 => ("Signtext", "made", "LSigntext$Line;", true)
  | 6 => ("Signtext", "draft", "LSigntext$Line;", true)
  | _ => ("Signtext", "tried", "LSigntext$Pieces;", true)
def tyX2 : Nat → FieldType := fun k => match k with
  | 0 => .array (.object "Signtext$Line")
  | 1 => .array (.object "Signtext$Line")
  | 2 => .object "Signtext$Line"
  | 3 => .object "Signtext$Pieces"
  | 4 => .int
  | 5 => .object "Signtext$Line"
  | 6 => .object "Signtext$Line"
  | _ => .object "Signtext$Pieces"
theorem nmX2 : ∀ a, a < 8 → ∀ b, b < 8 → a ≠ b → (TX2 a).2.1 ≠ (TX2 b).2.1 := by decide +kernel
theorem tyX2_ok : ∀ k, k < 8 → parseFieldDescriptor (TX2 k).2.2.1 = some (tyX2 k) := by decide +kernel
abbrev cX2_init : ByteArray := prog_1_method_1_code
def yX2_init : MethodName := ⟨RX2, "<init>", "()V"⟩
abbrev cX2_put : ByteArray := prog_1_method_2_code
def yX2_put : MethodName := ⟨RX2, "put", "(IIIIII)I"⟩
abbrev cX2_clear : ByteArray := prog_1_method_3_code
def yX2_clear : MethodName := ⟨RX2, "clear", "(I)I"⟩
abbrev cX2_copy : ByteArray := prog_1_method_4_code
def yX2_copy : MethodName := ⟨RX2, "copy", "(II)I"⟩
abbrev cX2_part : ByteArray := prog_1_method_5_code
def yX2_part : MethodName := ⟨RX2, "part", "(IIII)I"⟩
abbrev cX2_tail : ByteArray := prog_1_method_6_code
def yX2_tail : MethodName := ⟨RX2, "tail", "(III)I"⟩
abbrev cX2_join : ByteArray := prog_1_method_7_code
def yX2_join : MethodName := ⟨RX2, "join", "(III)I"⟩
abbrev cX2_times : ByteArray := prog_1_method_8_code
def yX2_times : MethodName := ⟨RX2, "times", "(III)I"⟩
abbrev cX2_trim : ByteArray := prog_1_method_9_code
def yX2_trim : MethodName := ⟨RX2, "trim", "(IZI)I"⟩
abbrev cX2_number : ByteArray := prog_1_method_10_code
def yX2_number : MethodName := ⟨RX2, "number", "(IIZ)I"⟩
abbrev cX2_great : ByteArray := prog_1_method_11_code
def yX2_great : MethodName := ⟨RX2, "great", "(III)I"⟩
abbrev cX2_truth : ByteArray := prog_1_method_12_code
def yX2_truth : MethodName := ⟨RX2, "truth", "(IZZ)I"⟩
abbrev cX2_ahead : ByteArray := prog_1_method_13_code
def yX2_ahead : MethodName := ⟨RX2, "ahead", "(II)I"⟩
abbrev cX2_known : ByteArray := prog_1_method_14_code
def yX2_known : MethodName := ⟨RX2, "known", "(II)I"⟩
abbrev cX2_lay : ByteArray := prog_1_method_15_code
def yX2_lay : MethodName := ⟨RX2, "lay", "(I)I"⟩
abbrev cX2_set : ByteArray := prog_1_method_16_code
def yX2_set : MethodName := ⟨RX2, "set", "(II)I"⟩
abbrev cX2_take : ByteArray := prog_1_method_17_code
def yX2_take : MethodName := ⟨RX2, "take", "(I)I"⟩
abbrev cX2_takePart : ByteArray := prog_1_method_18_code
def yX2_takePart : MethodName := ⟨RX2, "takePart", "(III)I"⟩
abbrev cX2_cut : ByteArray := prog_1_method_19_code
def yX2_cut : MethodName := ⟨RX2, "cut", "(I)I"⟩
abbrev cX2_takePiece : ByteArray := prog_1_method_20_code
def yX2_takePiece : MethodName := ⟨RX2, "takePiece", "(II)I"⟩
abbrev cX2_knock : ByteArray := prog_1_method_21_code
def yX2_knock : MethodName := ⟨RX2, "knock", "()I"⟩
abbrev cX2_text : ByteArray := prog_1_method_22_code
def yX2_text : MethodName := ⟨RX2, "text", "(I)Ljava/lang/String;"⟩
abbrev cX2_length : ByteArray := prog_1_method_23_code
def yX2_length : MethodName := ⟨RX2, "length", "(I)I"⟩
abbrev cX2_at : ByteArray := prog_1_method_24_code
def yX2_at : MethodName := ⟨RX2, "at", "(II)I"⟩
abbrev cX2_isEmpty : ByteArray := prog_1_method_25_code
def yX2_isEmpty : MethodName := ⟨RX2, "isEmpty", "(I)Z"⟩
abbrev cX2_isBlank : ByteArray := prog_1_method_26_code
def yX2_isBlank : MethodName := ⟨RX2, "isBlank", "(I)Z"⟩
abbrev cX2_hash : ByteArray := prog_1_method_27_code
def yX2_hash : MethodName := ⟨RX2, "hash", "(I)I"⟩
abbrev cX2_first : ByteArray := prog_1_method_28_code
def yX2_first : MethodName := ⟨RX2, "first", "(II)I"⟩
abbrev cX2_last : ByteArray := prog_1_method_29_code
def yX2_last : MethodName := ⟨RX2, "last", "(II)I"⟩
abbrev cX2_next : ByteArray := prog_1_method_30_code
def yX2_next : MethodName := ⟨RX2, "next", "(III)I"⟩
abbrev cX2_begins : ByteArray := prog_1_method_31_code
def yX2_begins : MethodName := ⟨RX2, "begins", "(IIZ)Z"⟩
abbrev cX2_stands : ByteArray := prog_1_method_32_code
def yX2_stands : MethodName := ⟨RX2, "stands", "(IIIZ)Z"⟩
abbrev cX2_firstOf : ByteArray := prog_1_method_33_code
def yX2_firstOf : MethodName := ⟨RX2, "firstOf", "(II)I"⟩
abbrev cX2_lastOf : ByteArray := prog_1_method_34_code
def yX2_lastOf : MethodName := ⟨RX2, "lastOf", "(II)I"⟩
abbrev cX2_isIn : ByteArray := prog_1_method_35_code
def yX2_isIn : MethodName := ⟨RX2, "isIn", "(II)Z"⟩
abbrev cX2_isSame : ByteArray := prog_1_method_36_code
def yX2_isSame : MethodName := ⟨RX2, "isSame", "(IIZ)Z"⟩
abbrev cX2_order : ByteArray := prog_1_method_37_code
def yX2_order : MethodName := ⟨RX2, "order", "(II)I"⟩
abbrev cX2_orderLike : ByteArray := prog_1_method_38_code
def yX2_orderLike : MethodName := ⟨RX2, "orderLike", "(II)I"⟩
abbrev cX2_row : ByteArray := prog_1_method_39_code
def yX2_row : MethodName := ⟨RX2, "row", "()Ljava/lang/String;"⟩
abbrev cX2_rowAt : ByteArray := prog_1_method_40_code
def yX2_rowAt : MethodName := ⟨RX2, "rowAt", "(I)I"⟩
abbrev cX2_piece : ByteArray := prog_1_method_41_code
def yX2_piece : MethodName := ⟨RX2, "piece", "(I)Ljava/lang/String;"⟩
abbrev cX2_isPiece : ByteArray := prog_1_method_42_code
def yX2_isPiece : MethodName := ⟨RX2, "isPiece", "(II)Z"⟩
abbrev cX2_house : ByteArray := prog_1_method_43_code
def yX2_house : MethodName := ⟨RX2, "house", "(I)I"⟩
abbrev cX2_isSound : ByteArray := prog_1_method_44_code
def yX2_isSound : MethodName := ⟨RX2, "isSound", "()Z"⟩
abbrev cX2_digest : ByteArray := prog_1_method_45_code
def yX2_digest : MethodName := ⟨RX2, "digest", "()J"⟩
abbrev cX2_textOf : ByteArray := prog_1_method_46_code
def yX2_textOf : MethodName := ⟨RX2, "textOf", "(I)LSigntext$Line;"⟩
abbrev cX2_knownOf : ByteArray := prog_1_method_47_code
def yX2_knownOf : MethodName := ⟨RX2, "knownOf", "(I)LSigntext$Line;"⟩
abbrev cX2_codeOf : ByteArray := prog_1_method_48_code
def yX2_codeOf : MethodName := ⟨RX2, "codeOf", "(I)I"⟩
abbrev cX2_needPlace : ByteArray := prog_1_method_49_code
def yX2_needPlace : MethodName := ⟨RX2, "needPlace", "(LSigntext$Line;I)V"⟩
abbrev cX2_needPlaceOrEnd : ByteArray := prog_1_method_50_code
def yX2_needPlaceOrEnd : MethodName := ⟨RX2, "needPlaceOrEnd", "(LSigntext$Line;I)V"⟩
abbrev cX2_needPiece : ByteArray := prog_1_method_51_code
def yX2_needPiece : MethodName := ⟨RX2, "needPiece", "(I)V"⟩
abbrev cX2_needRoom : ByteArray := prog_1_method_52_code
def yX2_needRoom : MethodName := ⟨RX2, "needRoom", "(I)V"⟩
abbrev cX2_addSignOrNone : ByteArray := prog_1_method_53_code
def yX2_addSignOrNone : MethodName := ⟨RX2, "addSignOrNone", "(I)V"⟩
abbrev cX2_addMade : ByteArray := prog_1_method_54_code
def yX2_addMade : MethodName := ⟨RX2, "addMade", "(LSigntext$Line;Z)I"⟩
abbrev cX2_joinInto : ByteArray := prog_1_method_55_code
def yX2_joinInto : MethodName := ⟨RX2, "joinInto", "(LSigntext$Line;LSigntext$Line;LSigntext$Line;)I"⟩
abbrev cX2_partInto : ByteArray := prog_1_method_56_code
def yX2_partInto : MethodName := ⟨RX2, "partInto", "(LSigntext$Line;IILSigntext$Line;)I"⟩
abbrev cX2_pieceInto : ByteArray := prog_1_method_57_code
def yX2_pieceInto : MethodName := ⟨RX2, "pieceInto", "(ILSigntext$Line;)I"⟩
abbrev cX2_wordOfKnown : ByteArray := prog_1_method_58_code
def yX2_wordOfKnown : MethodName := ⟨RX2, "wordOfKnown", "(I)Ljava/lang/String;"⟩
abbrev cX2_signsOfAll : ByteArray := prog_1_method_59_code
def yX2_signsOfAll : MethodName := ⟨RX2, "signsOfAll", "()I"⟩
abbrev cX2_emptyOnes : ByteArray := prog_1_method_60_code
def yX2_emptyOnes : MethodName := ⟨RX2, "emptyOnes", "()I"⟩
abbrev cX2_summed : ByteArray := prog_1_method_61_code
def yX2_summed : MethodName := ⟨RX2, "summed", "(JJ)J"⟩
abbrev cX2_summedText : ByteArray := prog_1_method_62_code
def yX2_summedText : MethodName := ⟨RX2, "summedText", "(JLSigntext$Line;)J"⟩
abbrev cX2_summedPair : ByteArray := prog_1_method_63_code
def yX2_summedPair : MethodName := ⟨RX2, "summedPair", "(JLSigntext$Line;LSigntext$Line;)J"⟩
abbrev cX2_directionOf : ByteArray := prog_1_method_64_code
def yX2_directionOf : MethodName := ⟨RX2, "directionOf", "(I)I"⟩
abbrev cX2_isSoundAlone : ByteArray := prog_1_method_65_code
def yX2_isSoundAlone : MethodName := ⟨RX2, "isSoundAlone", "(LSigntext$Line;)Z"⟩
abbrev cX2_isSameTakenAgain : ByteArray := prog_1_method_66_code
def yX2_isSameTakenAgain : MethodName := ⟨RX2, "isSameTakenAgain", "(LSigntext$Line;)Z"⟩
abbrev cX2_isSameInTwoParts : ByteArray := prog_1_method_67_code
def yX2_isSameInTwoParts : MethodName := ⟨RX2, "isSameInTwoParts", "(LSigntext$Line;)Z"⟩
abbrev cX2_isSameTrimmedAgain : ByteArray := prog_1_method_68_code
def yX2_isSameTrimmedAgain : MethodName := ⟨RX2, "isSameTrimmedAgain", "(LSigntext$Line;Z)Z"⟩
abbrev cX2_isSameOfPieces : ByteArray := prog_1_method_69_code
def yX2_isSameOfPieces : MethodName := ⟨RX2, "isSameOfPieces", "(LSigntext$Line;)Z"⟩
abbrev cX2_isSoundPair : ByteArray := prog_1_method_70_code
def yX2_isSoundPair : MethodName := ⟨RX2, "isSoundPair", "(LSigntext$Line;LSigntext$Line;)Z"⟩
def RX3 : String := "SigntextLaw$Out"
def TX3 : u_T := fun k => match k with
  | 0 => ("SigntextLaw$Out", "n", "J", false)
  | _ => ("SigntextLaw$Out", "s", "Ljava/lang/String;", false)
def tyX3 : Nat → FieldType := fun k => match k with
  | 0 => .long
  | _ => .object "java/lang/String"
theorem nmX3 : ∀ a, a < 2 → ∀ b, b < 2 → a ≠ b → (TX3 a).2.1 ≠ (TX3 b).2.1 := by decide +kernel
theorem tyX3_ok : ∀ k, k < 2 → parseFieldDescriptor (TX3 k).2.2.1 = some (tyX3 k) := by decide +kernel
abbrev cX3_init : ByteArray := prog_5_method_1_code
def yX3_init : MethodName := ⟨RX3, "<init>", "()V"⟩
def RX4 : String := "SigntextModel"
def TX4 : u_T := fun k => match k with
  | 0 => ("SigntextModel", "thrown", "I", false)
  | 1 => ("SigntextModel", "texts", "[[I", true)
  | 2 => ("SigntextModel", "row", "[I", false)
  | 3 => ("SigntextModel", "pieces", "Ljava/util/ArrayList;", false)
  | _ => ("SigntextModel", "knocks", "I", false)
def tyX4 : Nat → FieldType := fun k => match k with
  | 0 => .int
  | 1 => .array (.array .int)
  | 2 => .array .int
  | 3 => .object "java/util/ArrayList"
  | _ => .int
theorem nmX4 : ∀ a, a < 5 → ∀ b, b < 5 → a ≠ b → (TX4 a).2.1 ≠ (TX4 b).2.1 := by decide +kernel
theorem tyX4_ok : ∀ k, k < 5 → parseFieldDescriptor (TX4 k).2.2.1 = some (tyX4 k) := by decide +kernel
abbrev cX4_isIn : ByteArray := prog_6_method_1_code
def yX4_isIn : MethodName := ⟨RX4, "isIn", "(III)Z"⟩
abbrev cX4_one : ByteArray := prog_6_method_2_code
def yX4_one : MethodName := ⟨RX4, "one", "(Z)I"⟩
abbrev cX4_little : ByteArray := prog_6_method_3_code
def yX4_little : MethodName := ⟨RX4, "little", "(I)I"⟩
abbrev cX4_cut : ByteArray := prog_6_method_4_code
def yX4_cut : MethodName := ⟨RX4, "cut", "([III)[I"⟩
abbrev cX4_joined : ByteArray := prog_6_method_5_code
def yX4_joined : MethodName := ⟨RX4, "joined", "([I[I)[I"⟩
abbrev cX4_told : ByteArray := prog_6_method_6_code
def yX4_told : MethodName := ⟨RX4, "told", "([I)Ljava/lang/String;"⟩
abbrev cX4_digits : ByteArray := prog_6_method_7_code
def yX4_digits : MethodName := ⟨RX4, "digits", "(J)[I"⟩
abbrev cX4_truth : ByteArray := prog_6_method_8_code
def yX4_truth : MethodName := ⟨RX4, "truth", "(Z)[I"⟩
abbrev cX4_isWhite : ByteArray := prog_6_method_9_code
def yX4_isWhite : MethodName := ⟨RX4, "isWhite", "(I)Z"⟩
abbrev cX4_goes : ByteArray := prog_6_method_10_code
def yX4_goes : MethodName := ⟨RX4, "goes", "(IZ)Z"⟩
abbrev cX4_trimmed : ByteArray := prog_6_method_11_code
def yX4_trimmed : MethodName := ⟨RX4, "trimmed", "([IZ)[I"⟩
abbrev cX4_stands : ByteArray := prog_6_method_12_code
def yX4_stands : MethodName := ⟨RX4, "stands", "([II[IZ)Z"⟩
abbrev cX4_first : ByteArray := prog_6_method_13_code
def yX4_first : MethodName := ⟨RX4, "first", "([I[I)I"⟩
abbrev cX4_last : ByteArray := prog_6_method_14_code
def yX4_last : MethodName := ⟨RX4, "last", "([I[I)I"⟩
abbrev cX4_isSame : ByteArray := prog_6_method_15_code
def yX4_isSame : MethodName := ⟨RX4, "isSame", "([I[IZ)Z"⟩
abbrev cX4_order : ByteArray := prog_6_method_16_code
def yX4_order : MethodName := ⟨RX4, "order", "([I[IZ)I"⟩
abbrev cX4_hash : ByteArray := prog_6_method_17_code
def yX4_hash : MethodName := ⟨RX4, "hash", "([I)I"⟩
abbrev cX4_pieces : ByteArray := prog_6_method_18_code
def yX4_pieces : MethodName := ⟨RX4, "pieces", "([I)Ljava/util/ArrayList;"⟩
abbrev cX4_init : ByteArray := prog_6_method_19_code
def yX4_init : MethodName := ⟨RX4, "<init>", "()V"⟩
abbrev cX4_thrown : ByteArray := prog_6_method_20_code
def yX4_thrown : MethodName := ⟨RX4, "thrown", "()I"⟩
abbrev cX4_refuse : ByteArray := prog_6_method_21_code
def yX4_refuse : MethodName := ⟨RX4, "refuse", "(ZI)Z"⟩
abbrev cX4_start : ByteArray := prog_6_method_22_code
def yX4_start : MethodName := ⟨RX4, "start", "(ZI)Z"⟩
abbrev cX4_isNone : ByteArray := prog_6_method_23_code
def yX4_isNone : MethodName := ⟨RX4, "isNone", "(I)Z"⟩
abbrev cX4_isNoSign : ByteArray := prog_6_method_24_code
def yX4_isNoSign : MethodName := ⟨RX4, "isNoSign", "(I)Z"⟩
abbrev cX4_isNoKnown : ByteArray := prog_6_method_25_code
def yX4_isNoKnown : MethodName := ⟨RX4, "isNoKnown", "(I)Z"⟩
abbrev cX4_become : ByteArray := prog_6_method_26_code
def yX4_become : MethodName := ⟨RX4, "become", "(I[I)I"⟩
abbrev cX4_put : ByteArray := prog_6_method_27_code
def yX4_put : MethodName := ⟨RX4, "put", "(IIIIII)I"⟩
abbrev cX4_clear : ByteArray := prog_6_method_28_code
def yX4_clear : MethodName := ⟨RX4, "clear", "(I)I"⟩
abbrev cX4_copy : ByteArray := prog_6_method_29_code
def yX4_copy : MethodName := ⟨RX4, "copy", "(II)I"⟩
abbrev cX4_part : ByteArray := prog_6_method_30_code
def yX4_part : MethodName := ⟨RX4, "part", "(IIII)I"⟩
abbrev cX4_tail : ByteArray := prog_6_method_31_code
def yX4_tail : MethodName := ⟨RX4, "tail", "(III)I"⟩
abbrev cX4_join : ByteArray := prog_6_method_32_code
def yX4_join : MethodName := ⟨RX4, "join", "(III)I"⟩
abbrev cX4_times : ByteArray := prog_6_method_33_code
def yX4_times : MethodName := ⟨RX4, "times", "(III)I"⟩
abbrev cX4_trim : ByteArray := prog_6_method_34_code
def yX4_trim : MethodName := ⟨RX4, "trim", "(IZI)I"⟩
abbrev cX4_beside : ByteArray := prog_6_method_35_code
def yX4_beside : MethodName := ⟨RX4, "beside", "(I[IZ)I"⟩
abbrev cX4_number : ByteArray := prog_6_method_36_code
def yX4_number : MethodName := ⟨RX4, "number", "(IIZ)I"⟩
abbrev cX4_great : ByteArray := prog_6_method_37_code
def yX4_great : MethodName := ⟨RX4, "great", "(III)I"⟩
abbrev cX4_truth_ : ByteArray := prog_6_method_38_code
def yX4_truth_ : MethodName := ⟨RX4, "truth", "(IZZ)I"⟩
abbrev cX4_ahead : ByteArray := prog_6_method_39_code
def yX4_ahead : MethodName := ⟨RX4, "ahead", "(II)I"⟩
abbrev cX4_known : ByteArray := prog_6_method_40_code
def yX4_known : MethodName := ⟨RX4, "known", "(II)I"⟩
abbrev cX4_lay : ByteArray := prog_6_method_41_code
def yX4_lay : MethodName := ⟨RX4, "lay", "(I)I"⟩
abbrev cX4_isNoPlace : ByteArray := prog_6_method_42_code
def yX4_isNoPlace : MethodName := ⟨RX4, "isNoPlace", "(I)Z"⟩
abbrev cX4_set : ByteArray := prog_6_method_43_code
def yX4_set : MethodName := ⟨RX4, "set", "(II)I"⟩
abbrev cX4_take : ByteArray := prog_6_method_44_code
def yX4_take : MethodName := ⟨RX4, "take", "(I)I"⟩
abbrev cX4_takePart : ByteArray := prog_6_method_45_code
def yX4_takePart : MethodName := ⟨RX4, "takePart", "(III)I"⟩
abbrev cX4_cut_ : ByteArray := prog_6_method_46_code
def yX4_cut_ : MethodName := ⟨RX4, "cut", "(I)I"⟩
abbrev cX4_isNoPiece : ByteArray := prog_6_method_47_code
def yX4_isNoPiece : MethodName := ⟨RX4, "isNoPiece", "(I)Z"⟩
abbrev cX4_takePiece : ByteArray := prog_6_method_48_code
def yX4_takePiece : MethodName := ⟨RX4, "takePiece", "(II)I"⟩
abbrev cX4_knock : ByteArray := prog_6_method_49_code
def yX4_knock : MethodName := ⟨RX4, "knock", "()I"⟩
abbrev cX4_text : ByteArray := prog_6_method_50_code
def yX4_text : MethodName := ⟨RX4, "text", "(I)Ljava/lang/String;"⟩
abbrev cX4_length : ByteArray := prog_6_method_51_code
def yX4_length : MethodName := ⟨RX4, "length", "(I)I"⟩
abbrev cX4_at : ByteArray := prog_6_method_52_code
def yX4_at : MethodName := ⟨RX4, "at", "(II)I"⟩
abbrev cX4_isEmpty : ByteArray := prog_6_method_53_code
def yX4_isEmpty : MethodName := ⟨RX4, "isEmpty", "(I)Z"⟩
abbrev cX4_isBlank : ByteArray := prog_6_method_54_code
def yX4_isBlank : MethodName := ⟨RX4, "isBlank", "(I)Z"⟩
abbrev cX4_hash_ : ByteArray := prog_6_method_55_code
def yX4_hash_ : MethodName := ⟨RX4, "hash", "(I)I"⟩
abbrev cX4_first_ : ByteArray := prog_6_method_56_code
def yX4_first_ : MethodName := ⟨RX4, "first", "(II)I"⟩
abbrev cX4_last_ : ByteArray := prog_6_method_57_code
def yX4_last_ : MethodName := ⟨RX4, "last", "(II)I"⟩
abbrev cX4_next : ByteArray := prog_6_method_58_code
def yX4_next : MethodName := ⟨RX4, "next", "(III)I"⟩
abbrev cX4_begins : ByteArray := prog_6_method_59_code
def yX4_begins : MethodName := ⟨RX4, "begins", "(IIZ)Z"⟩
abbrev cX4_stands_ : ByteArray := prog_6_method_60_code
def yX4_stands_ : MethodName := ⟨RX4, "stands", "(IIIZ)Z"⟩
abbrev cX4_areNone : ByteArray := prog_6_method_61_code
def yX4_areNone : MethodName := ⟨RX4, "areNone", "(II)Z"⟩
abbrev cX4_firstOf : ByteArray := prog_6_method_62_code
def yX4_firstOf : MethodName := ⟨RX4, "firstOf", "(II)I"⟩
abbrev cX4_lastOf : ByteArray := prog_6_method_63_code
def yX4_lastOf : MethodName := ⟨RX4, "lastOf", "(II)I"⟩
abbrev cX4_isIn_ : ByteArray := prog_6_method_64_code
def yX4_isIn_ : MethodName := ⟨RX4, "isIn", "(II)Z"⟩
abbrev cX4_isSame_ : ByteArray := prog_6_method_65_code
def yX4_isSame_ : MethodName := ⟨RX4, "isSame", "(IIZ)Z"⟩
abbrev cX4_order_ : ByteArray := prog_6_method_66_code
def yX4_order_ : MethodName := ⟨RX4, "order", "(II)I"⟩
abbrev cX4_orderLike : ByteArray := prog_6_method_67_code
def yX4_orderLike : MethodName := ⟨RX4, "orderLike", "(II)I"⟩
abbrev cX4_row : ByteArray := prog_6_method_68_code
def yX4_row : MethodName := ⟨RX4, "row", "()Ljava/lang/String;"⟩
abbrev cX4_rowAt : ByteArray := prog_6_method_69_code
def yX4_rowAt : MethodName := ⟨RX4, "rowAt", "(I)I"⟩
abbrev cX4_piece : ByteArray := prog_6_method_70_code
def yX4_piece : MethodName := ⟨RX4, "piece", "(I)Ljava/lang/String;"⟩
abbrev cX4_isPiece : ByteArray := prog_6_method_71_code
def yX4_isPiece : MethodName := ⟨RX4, "isPiece", "(II)Z"⟩
abbrev cX4_houseTold : ByteArray := prog_6_method_72_code
def yX4_houseTold : MethodName := ⟨RX4, "houseTold", "(I)I"⟩
abbrev cX4_house : ByteArray := prog_6_method_73_code
def yX4_house : MethodName := ⟨RX4, "house", "(I)I"⟩
abbrev cX4_isTrue : ByteArray := prog_6_method_74_code
def yX4_isTrue : MethodName := ⟨RX4, "isTrue", "()Z"⟩
abbrev cX4_isSound : ByteArray := prog_6_method_75_code
def yX4_isSound : MethodName := ⟨RX4, "isSound", "()Z"⟩
abbrev cX4_add : ByteArray := prog_6_method_76_code
def yX4_add : MethodName := ⟨RX4, "add", "(JJ)J"⟩
abbrev cX4_digest : ByteArray := prog_6_method_77_code
def yX4_digest : MethodName := ⟨RX4, "digest", "()J"⟩
def RJx145de : String := "java/io/Serializable"
def TJx145de : u_T := fun k => match k with
  | _ => ("", "", "", false)
def tyJx145de : Nat → FieldType := fun k => match k with
  | _ => .int
theorem nmJx145de : ∀ a, a < 0 → ∀ b, b < 0 → a ≠ b → (TJx145de a).2.1 ≠ (TJx145de b).2.1 := by decide +kernel
theorem tyJx145de_ok : ∀ k, k < 0 → parseFieldDescriptor (TJx145de k).2.2.1 = some (tyJx145de k) := by decide +kernel
def RJ5 : String := "java/lang/AbstractStringBuilder"
def TJ5 : u_T := fun k => match k with
  | _ => ("", "", "", false)
def tyJ5 : Nat → FieldType := fun k => match k with
  | _ => .int
theorem nmJ5 : ∀ a, a < 0 → ∀ b, b < 0 → a ≠ b → (TJ5 a).2.1 ≠ (TJ5 b).2.1 := by decide +kernel
theorem tyJ5_ok : ∀ k, k < 0 → parseFieldDescriptor (TJ5 k).2.2.1 = some (tyJ5 k) := by decide +kernel
abbrev cJ5_init_d00df : ByteArray := prog_8_method_2_code
def yJ5_init_d00df : MethodName := ⟨RJ5, "<init>", "(I)V"⟩
abbrev cJ5_length_8abf5 : ByteArray := prog_8_method_6_code
def yJ5_length_8abf5 : MethodName := ⟨RJ5, "length", "()I"⟩
abbrev cJ5_ensureCapacityInternal_d00df : ByteArray := prog_8_method_9_code
def yJ5_ensureCapacityInternal_d00df : MethodName := ⟨RJ5, "ensureCapacityInternal", "(I)V"⟩
abbrev cJ5_newCapacity_0f7a4 : ByteArray := prog_8_method_10_code
def yJ5_newCapacity_0f7a4 : MethodName := ⟨RJ5, "newCapacity", "(I)I"⟩
abbrev cJ5_inflate_da8c8 : ByteArray := prog_8_method_11_code
def yJ5_inflate_da8c8 : MethodName := ⟨RJ5, "inflate", "()V"⟩
abbrev cJ5_append_cf1ce : ByteArray := prog_8_method_22_code
def yJ5_append_cf1ce : MethodName := ⟨RJ5, "append", "(Ljava/lang/String;)Ljava/lang/AbstractStringBuilder;"⟩
abbrev cJ5_appendNull_278bc : ByteArray := prog_8_method_26_code
def yJ5_appendNull_278bc : MethodName := ⟨RJ5, "appendNull", "()Ljava/lang/AbstractStringBuilder;"⟩
abbrev cJ5_append_3fe6f : ByteArray := prog_8_method_31_code
def yJ5_append_3fe6f : MethodName := ⟨RJ5, "append", "(C)Ljava/lang/AbstractStringBuilder;"⟩
abbrev cJ5_append_c97b9 : ByteArray := prog_8_method_32_code
def yJ5_append_c97b9 : MethodName := ⟨RJ5, "append", "(I)Ljava/lang/AbstractStringBuilder;"⟩
abbrev cJ5_getValue_6d5f1 : ByteArray := prog_8_method_64_code
def yJ5_getValue_6d5f1 : MethodName := ⟨RJ5, "getValue", "()[B"⟩
abbrev cJ5_isLatin1_aae02 : ByteArray := prog_8_method_68_code
def yJ5_isLatin1_aae02 : MethodName := ⟨RJ5, "isLatin1", "()Z"⟩
abbrev cJ5_inflateIfNeededFor_a7421 : ByteArray := prog_8_method_71_code
def yJ5_inflateIfNeededFor_a7421 : MethodName := ⟨RJ5, "inflateIfNeededFor", "(Ljava/lang/String;)V"⟩
abbrev cJ5_putStringAt_47b60 : ByteArray := prog_8_method_73_code
def yJ5_putStringAt_47b60 : MethodName := ⟨RJ5, "putStringAt", "(ILjava/lang/String;)V"⟩
def RJx2cfe8 : String := "java/lang/Appendable"
def TJx2cfe8 : u_T := fun k => match k with
  | _ => ("", "", "", false)
def tyJx2cfe8 : Nat → FieldType := fun k => match k with
  | _ => .int
theorem nmJx2cfe8 : ∀ a, a < 0 → ∀ b, b < 0 → a ≠ b → (TJx2cfe8 a).2.1 ≠ (TJx2cfe8 b).2.1 := by decide +kernel
theorem tyJx2cfe8_ok : ∀ k, k < 0 → parseFieldDescriptor (TJx2cfe8 k).2.2.1 = some (tyJx2cfe8 k) := by decide +kernel
def RJx9f9b0 : String := "java/lang/CharSequence"
def TJx9f9b0 : u_T := fun k => match k with
  | _ => ("", "", "", false)
def tyJx9f9b0 : Nat → FieldType := fun k => match k with
  | _ => .int
theorem nmJx9f9b0 : ∀ a, a < 0 → ∀ b, b < 0 → a ≠ b → (TJx9f9b0 a).2.1 ≠ (TJx9f9b0 b).2.1 := by decide +kernel
theorem tyJx9f9b0_ok : ∀ k, k < 0 → parseFieldDescriptor (TJx9f9b0 k).2.2.1 = some (tyJx9f9b0 k) := by decide +kernel
def RJx8e188 : String := "java/lang/Cloneable"
def TJx8e188 : u_T := fun k => match k with
  | _ => ("", "", "", false)
def tyJx8e188 : Nat → FieldType := fun k => match k with
  | _ => .int
theorem nmJx8e188 : ∀ a, a < 0 → ∀ b, b < 0 → a ≠ b → (TJx8e188 a).2.1 ≠ (TJx8e188 b).2.1 := by decide +kernel
theorem tyJx8e188_ok : ∀ k, k < 0 → parseFieldDescriptor (TJx8e188 k).2.2.1 = some (tyJx8e188 k) := by decide +kernel
def RJxb160c : String := "java/lang/Comparable"
def TJxb160c : u_T := fun k => match k with
  | _ => ("", "", "", false)
def tyJxb160c : Nat → FieldType := fun k => match k with
  | _ => .int
theorem nmJxb160c : ∀ a, a < 0 → ∀ b, b < 0 → a ≠ b → (TJxb160c a).2.1 ≠ (TJxb160c b).2.1 := by decide +kernel
theorem tyJxb160c_ok : ∀ k, k < 0 → parseFieldDescriptor (TJxb160c k).2.2.1 = some (tyJxb160c k) := by decide +kernel
def RJ6 : String := "java/lang/Integer"
def TJ6 : u_T := fun k => match k with
  | _ => ("", "", "", false)
def tyJ6 : Nat → FieldType := fun k => match k with
  | _ => .int
theorem nmJ6 : ∀ a, a < 0 → ∀ b, b < 0 → a ≠ b → (TJ6 a).2.1 ≠ (TJ6 b).2.1 := by decide +kernel
theorem tyJ6_ok : ∀ k, k < 0 → parseFieldDescriptor (TJ6 k).2.2.1 = some (tyJ6 k) := by decide +kernel
abbrev cJ6_getChars_ba4f3 : ByteArray := prog_17_method_12_code
def yJ6_getChars_ba4f3 : MethodName := ⟨RJ6, "getChars", "(II[B)I"⟩
abbrev cJ6_stringSize_0f7a4 : ByteArray := prog_17_method_13_code
def yJ6_stringSize_0f7a4 : MethodName := ⟨RJ6, "stringSize", "(I)I"⟩
abbrev cJ6_compare_7cf53 : ByteArray := prog_17_method_40_code
def yJ6_compare_7cf53 : MethodName := ⟨RJ6, "compare", "(II)I"⟩
def RJxab1ab : String := "java/lang/Iterable"
def TJxab1ab : u_T := fun k => match k with
  | _ => ("", "", "", false)
def tyJxab1ab : Nat → FieldType := fun k => match k with
  | _ => .int
theorem nmJxab1ab : ∀ a, a < 0 → ∀ b, b < 0 → a ≠ b → (TJxab1ab a).2.1 ≠ (TJxab1ab b).2.1 := by decide +kernel
theorem tyJxab1ab_ok : ∀ k, k < 0 → parseFieldDescriptor (TJxab1ab k).2.2.1 = some (tyJxab1ab k) := by decide +kernel
def RJ9 : String := "java/lang/Math"
def TJ9 : u_T := fun k => match k with
  | _ => ("", "", "", false)
def tyJ9 : Nat → FieldType := fun k => match k with
  | _ => .int
theorem nmJ9 : ∀ a, a < 0 → ∀ b, b < 0 → a ≠ b → (TJ9 a).2.1 ≠ (TJ9 b).2.1 := by decide +kernel
theorem tyJ9_ok : ∀ k, k < 0 → parseFieldDescriptor (TJ9 k).2.2.1 = some (tyJ9 k) := by decide +kernel
abbrev cJ9_abs_0f7a4 : ByteArray := prog_19_method_59_code
def yJ9_abs_0f7a4 : MethodName := ⟨RJ9, "abs", "(I)I"⟩
abbrev cJ9_max_7cf53 : ByteArray := prog_19_method_65_code
def yJ9_max_7cf53 : MethodName := ⟨RJ9, "max", "(II)I"⟩
abbrev cJ9_min_7cf53 : ByteArray := prog_19_method_69_code
def yJ9_min_7cf53 : MethodName := ⟨RJ9, "min", "(II)I"⟩
def RJxd2413 : String := "java/lang/Number"
def TJxd2413 : u_T := fun k => match k with
  | _ => ("", "", "", false)
def tyJxd2413 : Nat → FieldType := fun k => match k with
  | _ => .int
theorem nmJxd2413 : ∀ a, a < 0 → ∀ b, b < 0 → a ≠ b → (TJxd2413 a).2.1 ≠ (TJxd2413 b).2.1 := by decide +kernel
theorem tyJxd2413_ok : ∀ k, k < 0 → parseFieldDescriptor (TJxd2413 k).2.2.1 = some (tyJxd2413 k) := by decide +kernel
def RJ0 : String := "java/lang/String"
def TJ0 : u_T := fun k => match k with
  | 0 => ("java/lang/String", "value", "[B", true)
  | 1 => ("java/lang/String", "coder", "B", true)
  | 2 => ("java/lang/String", "hash", "I", false)
  | _ => ("java/lang/String", "hashIsZero", "Z", false)
def tyJ0 : Nat → FieldType := fun k => match k with
  | 0 => .array .byte
  | 1 => .byte
  | 2 => .int
  | _ => .boolean
theorem nmJ0 : ∀ a, a < 4 → ∀ b, b < 4 → a ≠ b → (TJ0 a).2.1 ≠ (TJ0 b).2.1 := by decide +kernel
theorem tyJ0_ok : ∀ k, k < 4 → parseFieldDescriptor (TJ0 k).2.2.1 = some (tyJ0 k) := by decide +kernel
abbrev cJ0_init_905df : ByteArray := prog_22_method_3_code
def yJ0_init_905df : MethodName := ⟨RJ0, "<init>", "([C)V"⟩
abbrev cJ0_init_81219 : ByteArray := prog_22_method_53_code
def yJ0_init_81219 : MethodName := ⟨RJ0, "<init>", "(Ljava/lang/StringBuilder;)V"⟩
abbrev cJ0_length_8abf5 : ByteArray := prog_22_method_54_code
def yJ0_length_8abf5 : MethodName := ⟨RJ0, "length", "()I"⟩
abbrev cJ0_charAt_5068e : ByteArray := prog_22_method_56_code
def yJ0_charAt_5068e : MethodName := ⟨RJ0, "charAt", "(I)C"⟩
abbrev cJ0_getBytes_840e7 : ByteArray := prog_22_method_147_code
def yJ0_getBytes_840e7 : MethodName := ⟨RJ0, "getBytes", "([BIB)V"⟩
abbrev cJ0_init_bb550 : ByteArray := prog_22_method_149_code
def yJ0_init_bb550 : MethodName := ⟨RJ0, "<init>", "([CIILjava/lang/Void;)V"⟩
abbrev cJ0_init_db425 : ByteArray := prog_22_method_150_code
def yJ0_init_db425 : MethodName := ⟨RJ0, "<init>", "(Ljava/lang/AbstractStringBuilder;Ljava/lang/Void;)V"⟩
abbrev cJ0_coder_7d493 : ByteArray := prog_22_method_152_code
def yJ0_coder_7d493 : MethodName := ⟨RJ0, "coder", "()B"⟩
abbrev cJ0_isLatin1_aae02 : ByteArray := prog_22_method_154_code
def yJ0_isLatin1_aae02 : MethodName := ⟨RJ0, "isLatin1", "()Z"⟩
abbrev cJ0_checkIndex_df160 : ByteArray := prog_22_method_155_code
def yJ0_checkIndex_df160 : MethodName := ⟨RJ0, "checkIndex", "(II)V"⟩
abbrev cJ0_checkBoundsOffCount_cabcc : ByteArray := prog_22_method_157_code
def yJ0_checkBoundsOffCount_cabcc : MethodName := ⟨RJ0, "checkBoundsOffCount", "(III)I"⟩
abbrev cJ0_checkBoundsBeginEnd_23922 : ByteArray := prog_22_method_158_code
def yJ0_checkBoundsBeginEnd_23922 : MethodName := ⟨RJ0, "checkBoundsBeginEnd", "(III)V"⟩
def RJ4 : String := "java/lang/StringBuilder"
def TJ4 : u_T := fun k => match k with
  | 0 => ("java/lang/AbstractStringBuilder", "value", "[B", false)
  | 1 => ("java/lang/AbstractStringBuilder", "coder", "B", false)
  | 2 => ("java/lang/AbstractStringBuilder", "maybeLatin1", "Z", false)
  | _ => ("java/lang/AbstractStringBuilder", "count", "I", false)
def tyJ4 : Nat → FieldType := fun k => match k with
  | 0 => .array .byte
  | 1 => .byte
  | 2 => .boolean
  | _ => .int
theorem nmJ4 : ∀ a, a < 4 → ∀ b, b < 4 → a ≠ b → (TJ4 a).2.1 ≠ (TJ4 b).2.1 := by decide +kernel
theorem tyJ4_ok : ∀ k, k < 4 → parseFieldDescriptor (TJ4 k).2.2.1 = some (tyJ4 k) := by decide +kernel
abbrev cJ4_init_da8c8 : ByteArray := prog_23_method_1_code
def yJ4_init_da8c8 : MethodName := ⟨RJ4, "<init>", "()V"⟩
abbrev cJ4_append_15ec4 : ByteArray := prog_23_method_7_code
def yJ4_append_15ec4 : MethodName := ⟨RJ4, "append", "(Ljava/lang/String;)Ljava/lang/StringBuilder;"⟩
abbrev cJ4_append_cf468 : ByteArray := prog_23_method_14_code
def yJ4_append_cf468 : MethodName := ⟨RJ4, "append", "(C)Ljava/lang/StringBuilder;"⟩
abbrev cJ4_append_bf812 : ByteArray := prog_23_method_15_code
def yJ4_append_bf812 : MethodName := ⟨RJ4, "append", "(I)Ljava/lang/StringBuilder;"⟩
abbrev cJ4_toString_0e30d : ByteArray := prog_23_method_42_code
def yJ4_toString_0e30d : MethodName := ⟨RJ4, "toString", "()Ljava/lang/String;"⟩
abbrev cJ4_length_8abf5 : ByteArray := prog_23_method_93_code
def yJ4_length_8abf5 : MethodName := ⟨RJ4, "length", "()I"⟩
def RJ1 : String := "java/lang/StringLatin1"
def TJ1 : u_T := fun k => match k with
  | _ => ("", "", "", false)
def tyJ1 : Nat → FieldType := fun k => match k with
  | _ => .int
theorem nmJ1 : ∀ a, a < 0 → ∀ b, b < 0 → a ≠ b → (TJ1 a).2.1 ≠ (TJ1 b).2.1 := by decide +kernel
theorem tyJ1_ok : ∀ k, k < 0 → parseFieldDescriptor (TJ1 k).2.2.1 = some (tyJ1 k) := by decide +kernel
abbrev cJ1_charAt_3b067 : ByteArray := prog_24_method_2_code
def yJ1_charAt_3b067 : MethodName := ⟨RJ1, "charAt", "([BI)C"⟩
abbrev cJ1_canEncode_fc78d : ByteArray := prog_24_method_3_code
def yJ1_canEncode_fc78d : MethodName := ⟨RJ1, "canEncode", "(C)Z"⟩
abbrev cJ1_inflate_0e8fd : ByteArray := prog_24_method_50_code
def yJ1_inflate_0e8fd : MethodName := ⟨RJ1, "inflate", "([BI[BII)V"⟩
def RJ2 : String := "java/lang/StringUTF16"
def TJ2 : u_T := fun k => match k with
  | _ => ("", "", "", false)
def tyJ2 : Nat → FieldType := fun k => match k with
  | _ => .int
theorem nmJ2 : ∀ a, a < 0 → ∀ b, b < 0 → a ≠ b → (TJ2 a).2.1 ≠ (TJ2 b).2.1 := by decide +kernel
theorem tyJ2_ok : ∀ k, k < 0 → parseFieldDescriptor (TJ2 k).2.2.1 = some (tyJ2 k) := by decide +kernel
abbrev cJ2_newBytesFor_77867 : ByteArray := prog_25_method_2_code
def yJ2_newBytesFor_77867 : MethodName := ⟨RJ2, "newBytesFor", "(I)[B"⟩
abbrev cJ2_newBytesLength_0f7a4 : ByteArray := prog_25_method_3_code
def yJ2_newBytesLength_0f7a4 : MethodName := ⟨RJ2, "newBytesLength", "(I)I"⟩
abbrev cJ2_putChar_b72d1 : ByteArray := prog_25_method_4_code
def yJ2_putChar_b72d1 : MethodName := ⟨RJ2, "putChar", "([BII)V"⟩
abbrev cJ2_getChar_3b067 : ByteArray := prog_25_method_5_code
def yJ2_getChar_3b067 : MethodName := ⟨RJ2, "getChar", "([BI)C"⟩
abbrev cJ2_length_9d52b : ByteArray := prog_25_method_6_code
def yJ2_length_9d52b : MethodName := ⟨RJ2, "length", "([B)I"⟩
abbrev cJ2_toBytes_dfd3c : ByteArray := prog_25_method_14_code
def yJ2_toBytes_dfd3c : MethodName := ⟨RJ2, "toBytes", "([CII)[B"⟩
abbrev cJ2_coderFromArrayLen_85cad : ByteArray := prog_25_method_15_code
def yJ2_coderFromArrayLen_85cad : MethodName := ⟨RJ2, "coderFromArrayLen", "([BI)B"⟩
abbrev cJ2_compress_dfd3c : ByteArray := prog_25_method_16_code
def yJ2_compress_dfd3c : MethodName := ⟨RJ2, "compress", "([CII)[B"⟩
abbrev cJ2_compress_39247 : ByteArray := prog_25_method_17_code
def yJ2_compress_39247 : MethodName := ⟨RJ2, "compress", "([BII)[B"⟩
abbrev cJ2_compress_fe38e : ByteArray := prog_25_method_21_code
def yJ2_compress_fe38e : MethodName := ⟨RJ2, "compress", "([CI[BII)I"⟩
abbrev cJ2_compress_5af95 : ByteArray := prog_25_method_22_code
def yJ2_compress_5af95 : MethodName := ⟨RJ2, "compress", "([BI[BII)I"⟩
abbrev cJ2_putCharSB_b72d1 : ByteArray := prog_25_method_71_code
def yJ2_putCharSB_b72d1 : MethodName := ⟨RJ2, "putCharSB", "([BII)V"⟩
abbrev cJ2_getChars_46870 : ByteArray := prog_25_method_77_code
def yJ2_getChars_46870 : MethodName := ⟨RJ2, "getChars", "(III[B)I"⟩
abbrev cJ2_putCharsAt_cd4e5 : ByteArray := prog_25_method_81_code
def yJ2_putCharsAt_cd4e5 : MethodName := ⟨RJ2, "putCharsAt", "([BICCCC)I"⟩
abbrev cJ2_charAt_3b067 : ByteArray := prog_25_method_83_code
def yJ2_charAt_3b067 : MethodName := ⟨RJ2, "charAt", "([BI)C"⟩
abbrev cJ2_inflate_0e8fd : ByteArray := prog_25_method_86_code
def yJ2_inflate_0e8fd : MethodName := ⟨RJ2, "inflate", "([BI[BII)V"⟩
abbrev cJ2_getChars_ba4f3 : ByteArray := prog_25_method_89_code
def yJ2_getChars_ba4f3 : MethodName := ⟨RJ2, "getChars", "(II[B)I"⟩
abbrev cJ2_checkIndex_2214a : ByteArray := prog_25_method_91_code
def yJ2_checkIndex_2214a : MethodName := ⟨RJ2, "checkIndex", "(I[B)V"⟩
abbrev cJ2_checkBoundsBeginEnd_d044e : ByteArray := prog_25_method_93_code
def yJ2_checkBoundsBeginEnd_d044e : MethodName := ⟨RJ2, "checkBoundsBeginEnd", "(II[B)V"⟩
abbrev cJ2_checkBoundsOffCount_d044e : ByteArray := prog_25_method_94_code
def yJ2_checkBoundsOffCount_d044e : MethodName := ⟨RJ2, "checkBoundsOffCount", "(II[B)V"⟩
def RJ10 : String := "java/lang/System"
def TJ10 : u_T := fun k => match k with
  | _ => ("", "", "", false)
def tyJ10 : Nat → FieldType := fun k => match k with
  | _ => .int
theorem nmJ10 : ∀ a, a < 0 → ∀ b, b < 0 → a ≠ b → (TJ10 a).2.1 ≠ (TJ10 b).2.1 := by decide +kernel
theorem tyJ10_ok : ∀ k, k < 0 → parseFieldDescriptor (TJ10 k).2.2.1 = some (tyJ10 k) := by decide +kernel
def RJxfd54e : String := "java/lang/constant/Constable"
def TJxfd54e : u_T := fun k => match k with
  | _ => ("", "", "", false)
def tyJxfd54e : Nat → FieldType := fun k => match k with
  | _ => .int
theorem nmJxfd54e : ∀ a, a < 0 → ∀ b, b < 0 → a ≠ b → (TJxfd54e a).2.1 ≠ (TJxfd54e b).2.1 := by decide +kernel
theorem tyJxfd54e_ok : ∀ k, k < 0 → parseFieldDescriptor (TJxfd54e k).2.2.1 = some (tyJxfd54e k) := by decide +kernel
def RJx3cf43 : String := "java/lang/constant/ConstantDesc"
def TJx3cf43 : u_T := fun k => match k with
  | _ => ("", "", "", false)
def tyJx3cf43 : Nat → FieldType := fun k => match k with
  | _ => .int
theorem nmJx3cf43 : ∀ a, a < 0 → ∀ b, b < 0 → a ≠ b → (TJx3cf43 a).2.1 ≠ (TJx3cf43 b).2.1 := by decide +kernel
theorem tyJx3cf43_ok : ∀ k, k < 0 → parseFieldDescriptor (TJx3cf43 k).2.2.1 = some (tyJx3cf43 k) := by decide +kernel
def RJxa1e45 : String := "java/util/AbstractCollection"
def TJxa1e45 : u_T := fun k => match k with
  | _ => ("", "", "", false)
def tyJxa1e45 : Nat → FieldType := fun k => match k with
  | _ => .int
theorem nmJxa1e45 : ∀ a, a < 0 → ∀ b, b < 0 → a ≠ b → (TJxa1e45 a).2.1 ≠ (TJxa1e45 b).2.1 := by decide +kernel
theorem tyJxa1e45_ok : ∀ k, k < 0 → parseFieldDescriptor (TJxa1e45 k).2.2.1 = some (tyJxa1e45 k) := by decide +kernel
abbrev cJxa1e45_init_da8c8 : ByteArray := prog_30_method_1_code
def yJxa1e45_init_da8c8 : MethodName := ⟨RJxa1e45, "<init>", "()V"⟩
def RJxc12de : String := "java/util/AbstractList"
def TJxc12de : u_T := fun k => match k with
  | _ => ("", "", "", false)
def tyJxc12de : Nat → FieldType := fun k => match k with
  | _ => .int
theorem nmJxc12de : ∀ a, a < 0 → ∀ b, b < 0 → a ≠ b → (TJxc12de a).2.1 ≠ (TJxc12de b).2.1 := by decide +kernel
theorem tyJxc12de_ok : ∀ k, k < 0 → parseFieldDescriptor (TJxc12de k).2.2.1 = some (tyJxc12de k) := by decide +kernel
abbrev cJxc12de_init_da8c8 : ByteArray := prog_31_method_1_code
def yJxc12de_init_da8c8 : MethodName := ⟨RJxc12de, "<init>", "()V"⟩
def RJx35411 : String := "java/util/ArrayList$Itr"
def TJx35411 : u_T := fun k => match k with
  | 0 => ("java/util/ArrayList$Itr", "cursor", "I", false)
  | 1 => ("java/util/ArrayList$Itr", "lastRet", "I", false)
  | 2 => ("java/util/ArrayList$Itr", "expectedModCount", "I", false)
  | _ => ("java/util/ArrayList$Itr", "this$0", "Ljava/util/ArrayList;", true)
def tyJx35411 : Nat → FieldType := fun k => match k with
  | 0 => .int
  | 1 => .int
  | 2 => .int
  | _ => .object "java/util/ArrayList"
theorem nmJx35411 : ∀ a, a < 4 → ∀ b, b < 4 → a ≠ b → (TJx35411 a).2.1 ≠ (TJx35411 b).2.1 := by decide +kernel
theorem tyJx35411_ok : ∀ k, k < 4 → parseFieldDescriptor (TJx35411 k).2.2.1 = some (tyJx35411 k) := by decide +kernel
abbrev cJx35411_init_45d68 : ByteArray := prog_33_method_1_code
def yJx35411_init_45d68 : MethodName := ⟨RJx35411, "<init>", "(Ljava/util/ArrayList;)V"⟩
abbrev cJx35411_hasNext_aae02 : ByteArray := prog_33_method_2_code
def yJx35411_hasNext_aae02 : MethodName := ⟨RJx35411, "hasNext", "()Z"⟩
abbrev cJx35411_next_0502b : ByteArray := prog_33_method_3_code
def yJx35411_next_0502b : MethodName := ⟨RJx35411, "next", "()Ljava/lang/Object;"⟩
abbrev cJx35411_checkForComodification_da8c8 : ByteArray := prog_33_method_6_code
def yJx35411_checkForComodification_da8c8 : MethodName := ⟨RJx35411, "checkForComodification", "()V"⟩
def RJx4a65c : String := "java/util/ArrayList"
def TJx4a65c : u_T := fun k => match k with
  | 0 => ("java/util/AbstractList", "modCount", "I", false)
  | 1 => ("java/util/ArrayList", "elementData", "[Ljava/lang/Object;", false)
  | _ => ("java/util/ArrayList", "size", "I", false)
def tyJx4a65c : Nat → FieldType := fun k => match k with
  | 0 => .int
  | 1 => .array (.object "java/lang/Object")
  | _ => .int
theorem nmJx4a65c : ∀ a, a < 3 → ∀ b, b < 3 → a ≠ b → (TJx4a65c a).2.1 ≠ (TJx4a65c b).2.1 := by decide +kernel
theorem tyJx4a65c_ok : ∀ k, k < 3 → parseFieldDescriptor (TJx4a65c k).2.2.1 = some (tyJx4a65c k) := by decide +kernel
abbrev cJx4a65c_init_da8c8 : ByteArray := prog_32_method_2_code
def yJx4a65c_init_da8c8 : MethodName := ⟨RJx4a65c, "<init>", "()V"⟩
abbrev cJx4a65c_grow_92f84 : ByteArray := prog_32_method_6_code
def yJx4a65c_grow_92f84 : MethodName := ⟨RJx4a65c, "grow", "(I)[Ljava/lang/Object;"⟩
abbrev cJx4a65c_grow_d5877 : ByteArray := prog_32_method_7_code
def yJx4a65c_grow_d5877 : MethodName := ⟨RJx4a65c, "grow", "()[Ljava/lang/Object;"⟩
abbrev cJx4a65c_size_8abf5 : ByteArray := prog_32_method_8_code
def yJx4a65c_size_8abf5 : MethodName := ⟨RJx4a65c, "size", "()I"⟩
abbrev cJx4a65c_isEmpty_aae02 : ByteArray := prog_32_method_9_code
def yJx4a65c_isEmpty_aae02 : MethodName := ⟨RJx4a65c, "isEmpty", "()Z"⟩
abbrev cJx4a65c_elementData_915e3 : ByteArray := prog_32_method_18_code
def yJx4a65c_elementData_915e3 : MethodName := ⟨RJx4a65c, "elementData", "(I)Ljava/lang/Object;"⟩
abbrev cJx4a65c_get_915e3 : ByteArray := prog_32_method_20_code
def yJx4a65c_get_915e3 : MethodName := ⟨RJx4a65c, "get", "(I)Ljava/lang/Object;"⟩
abbrev cJx4a65c_add_72be8 : ByteArray := prog_32_method_24_code
def yJx4a65c_add_72be8 : MethodName := ⟨RJx4a65c, "add", "(Ljava/lang/Object;[Ljava/lang/Object;I)V"⟩
abbrev cJx4a65c_add_9ea2d : ByteArray := prog_32_method_25_code
def yJx4a65c_add_9ea2d : MethodName := ⟨RJx4a65c, "add", "(Ljava/lang/Object;)Z"⟩
abbrev cJx4a65c_remove_915e3 : ByteArray := prog_32_method_29_code
def yJx4a65c_remove_915e3 : MethodName := ⟨RJx4a65c, "remove", "(I)Ljava/lang/Object;"⟩
abbrev cJx4a65c_fastRemove_b59b0 : ByteArray := prog_32_method_39_code
def yJx4a65c_fastRemove_b59b0 : MethodName := ⟨RJx4a65c, "fastRemove", "([Ljava/lang/Object;I)V"⟩
abbrev cJx4a65c_iterator_32c93 : ByteArray := prog_32_method_55_code
def yJx4a65c_iterator_32c93 : MethodName := ⟨RJx4a65c, "iterator", "()Ljava/util/Iterator;"⟩
def RJ7 : String := "java/util/Arrays"
def TJ7 : u_T := fun k => match k with
  | _ => ("", "", "", false)
def tyJ7 : Nat → FieldType := fun k => match k with
  | _ => .int
theorem nmJ7 : ∀ a, a < 0 → ∀ b, b < 0 → a ≠ b → (TJ7 a).2.1 ≠ (TJ7 b).2.1 := by decide +kernel
theorem tyJ7_ok : ∀ k, k < 0 → parseFieldDescriptor (TJ7 k).2.2.1 = some (tyJ7 k) := by decide +kernel
abbrev cJ7_copyOf_1904c : ByteArray := prog_34_method_119_code
def yJ7_copyOf_1904c : MethodName := ⟨RJ7, "copyOf", "([Ljava/lang/Object;I)[Ljava/lang/Object;"⟩
abbrev cJ7_copyOf_6403c : ByteArray := prog_34_method_120_code
def yJ7_copyOf_6403c : MethodName := ⟨RJ7, "copyOf", "([Ljava/lang/Object;ILjava/lang/Class;)[Ljava/lang/Object;"⟩
abbrev cJ7_copyOf_9075b : ByteArray := prog_34_method_121_code
def yJ7_copyOf_9075b : MethodName := ⟨RJ7, "copyOf", "([BI)[B"⟩
abbrev cJ7_checkLength_df160 : ByteArray := prog_34_method_131_code
def yJ7_checkLength_df160 : MethodName := ⟨RJ7, "checkLength", "(II)V"⟩
abbrev cJ7_copyOfRange_39247 : ByteArray := prog_34_method_132_code
def yJ7_copyOfRange_39247 : MethodName := ⟨RJ7, "copyOfRange", "([BII)[B"⟩
abbrev cJ7_copyOfRangeByte_39247 : ByteArray := prog_34_method_133_code
def yJ7_copyOfRangeByte_39247 : MethodName := ⟨RJ7, "copyOfRangeByte", "([BII)[B"⟩
def RJx5ef63 : String := "java/util/Collection"
def TJx5ef63 : u_T := fun k => match k with
  | _ => ("", "", "", false)
def tyJx5ef63 : Nat → FieldType := fun k => match k with
  | _ => .int
theorem nmJx5ef63 : ∀ a, a < 0 → ∀ b, b < 0 → a ≠ b → (TJx5ef63 a).2.1 ≠ (TJx5ef63 b).2.1 := by decide +kernel
theorem tyJx5ef63_ok : ∀ k, k < 0 → parseFieldDescriptor (TJx5ef63 k).2.2.1 = some (tyJx5ef63 k) := by decide +kernel
def RJx4d0d8 : String := "java/util/Iterator"
def TJx4d0d8 : u_T := fun k => match k with
  | _ => ("", "", "", false)
def tyJx4d0d8 : Nat → FieldType := fun k => match k with
  | _ => .int
theorem nmJx4d0d8 : ∀ a, a < 0 → ∀ b, b < 0 → a ≠ b → (TJx4d0d8 a).2.1 ≠ (TJx4d0d8 b).2.1 := by decide +kernel
theorem tyJx4d0d8_ok : ∀ k, k < 0 → parseFieldDescriptor (TJx4d0d8 k).2.2.1 = some (tyJx4d0d8 k) := by decide +kernel
def RJxbd725 : String := "java/util/List"
def TJxbd725 : u_T := fun k => match k with
  | _ => ("", "", "", false)
def tyJxbd725 : Nat → FieldType := fun k => match k with
  | _ => .int
theorem nmJxbd725 : ∀ a, a < 0 → ∀ b, b < 0 → a ≠ b → (TJxbd725 a).2.1 ≠ (TJxbd725 b).2.1 := by decide +kernel
theorem tyJxbd725_ok : ∀ k, k < 0 → parseFieldDescriptor (TJxbd725 k).2.2.1 = some (tyJxbd725 k) := by decide +kernel
def RJ15 : String := "java/util/Objects"
def TJ15 : u_T := fun k => match k with
  | _ => ("", "", "", false)
def tyJ15 : Nat → FieldType := fun k => match k with
  | _ => .int
theorem nmJ15 : ∀ a, a < 0 → ∀ b, b < 0 → a ≠ b → (TJ15 a).2.1 ≠ (TJ15 b).2.1 := by decide +kernel
theorem tyJ15_ok : ∀ k, k < 0 → parseFieldDescriptor (TJ15 k).2.2.1 = some (tyJ15 k) := by decide +kernel
abbrev cJ15_checkIndex_7cf53 : ByteArray := prog_38_method_17_code
def yJ15_checkIndex_7cf53 : MethodName := ⟨RJ15, "checkIndex", "(II)I"⟩
def RJxf0a74 : String := "java/util/RandomAccess"
def TJxf0a74 : u_T := fun k => match k with
  | _ => ("", "", "", false)
def tyJxf0a74 : Nat → FieldType := fun k => match k with
  | _ => .int
theorem nmJxf0a74 : ∀ a, a < 0 → ∀ b, b < 0 → a ≠ b → (TJxf0a74 a).2.1 ≠ (TJxf0a74 b).2.1 := by decide +kernel
theorem tyJxf0a74_ok : ∀ k, k < 0 → parseFieldDescriptor (TJxf0a74 k).2.2.1 = some (tyJxf0a74 k) := by decide +kernel
def RJxa66e6 : String := "java/util/SequencedCollection"
def TJxa66e6 : u_T := fun k => match k with
  | _ => ("", "", "", false)
def tyJxa66e6 : Nat → FieldType := fun k => match k with
  | _ => .int
theorem nmJxa66e6 : ∀ a, a < 0 → ∀ b, b < 0 → a ≠ b → (TJxa66e6 a).2.1 ≠ (TJxa66e6 b).2.1 := by decide +kernel
theorem tyJxa66e6_ok : ∀ k, k < 0 → parseFieldDescriptor (TJxa66e6 k).2.2.1 = some (tyJxa66e6 k) := by decide +kernel
def RJ8 : String := "jdk/internal/util/ArraysSupport"
def TJ8 : u_T := fun k => match k with
  | _ => ("", "", "", false)
def tyJ8 : Nat → FieldType := fun k => match k with
  | _ => .int
theorem nmJ8 : ∀ a, a < 0 → ∀ b, b < 0 → a ≠ b → (TJ8 a).2.1 ≠ (TJ8 b).2.1 := by decide +kernel
theorem tyJ8_ok : ∀ k, k < 0 → parseFieldDescriptor (TJ8 k).2.2.1 = some (tyJ8 k) := by decide +kernel
abbrev cJ8_newLength_cabcc : ByteArray := prog_41_method_27_code
def yJ8_newLength_cabcc : MethodName := ⟨RJ8, "newLength", "(III)I"⟩
abbrev cJ8_hugeLength_7cf53 : ByteArray := prog_41_method_28_code
def yJ8_hugeLength_7cf53 : MethodName := ⟨RJ8, "hugeLength", "(II)I"⟩
def RJ3 : String := "jdk/internal/util/Preconditions"
def TJ3 : u_T := fun k => match k with
  | _ => ("", "", "", false)
def tyJ3 : Nat → FieldType := fun k => match k with
  | _ => .int
theorem nmJ3 : ∀ a, a < 0 → ∀ b, b < 0 → a ≠ b → (TJ3 a).2.1 ≠ (TJ3 b).2.1 := by decide +kernel
theorem tyJ3_ok : ∀ k, k < 0 → parseFieldDescriptor (TJ3 k).2.2.1 = some (tyJ3 k) := by decide +kernel
abbrev cJ3_checkIndex_8e157 : ByteArray := prog_42_method_11_code
def yJ3_checkIndex_8e157 : MethodName := ⟨RJ3, "checkIndex", "(IILjava/util/function/BiFunction;)I"⟩
abbrev cJ3_checkFromToIndex_8c36e : ByteArray := prog_42_method_12_code
def yJ3_checkFromToIndex_8c36e : MethodName := ⟨RJ3, "checkFromToIndex", "(IIILjava/util/function/BiFunction;)I"⟩
abbrev cJ3_checkFromIndexSize_8c36e : ByteArray := prog_42_method_13_code
def yJ3_checkFromIndexSize_8c36e : MethodName := ⟨RJ3, "checkFromIndexSize", "(IIILjava/util/function/BiFunction;)I"⟩
def RL : String := "SigntextLaw"
abbrev cL_put : ByteArray := method_2_code
def yL_put : MethodName := ⟨RL, "put", "(LSigntext;IIIIIILSigntextLaw$Out;)I"⟩
abbrev cL_clear : ByteArray := method_3_code
def yL_clear : MethodName := ⟨RL, "clear", "(LSigntext;ILSigntextLaw$Out;)I"⟩
abbrev cL_copy : ByteArray := method_4_code
def yL_copy : MethodName := ⟨RL, "copy", "(LSigntext;IILSigntextLaw$Out;)I"⟩
abbrev cL_part : ByteArray := method_5_code
def yL_part : MethodName := ⟨RL, "part", "(LSigntext;IIIILSigntextLaw$Out;)I"⟩
abbrev cL_tail : ByteArray := method_6_code
def yL_tail : MethodName := ⟨RL, "tail", "(LSigntext;IIILSigntextLaw$Out;)I"⟩
abbrev cL_join : ByteArray := method_7_code
def yL_join : MethodName := ⟨RL, "join", "(LSigntext;IIILSigntextLaw$Out;)I"⟩
abbrev cL_times : ByteArray := method_8_code
def yL_times : MethodName := ⟨RL, "times", "(LSigntext;IIILSigntextLaw$Out;)I"⟩
abbrev cL_trim : ByteArray := method_9_code
def yL_trim : MethodName := ⟨RL, "trim", "(LSigntext;IZILSigntextLaw$Out;)I"⟩
abbrev cL_number : ByteArray := method_10_code
def yL_number : MethodName := ⟨RL, "number", "(LSigntext;IIZLSigntextLaw$Out;)I"⟩
abbrev cL_great : ByteArray := method_11_code
def yL_great : MethodName := ⟨RL, "great", "(LSigntext;IIILSigntextLaw$Out;)I"⟩
abbrev cL_truth : ByteArray := method_12_code
def yL_truth : MethodName := ⟨RL, "truth", "(LSigntext;IZZLSigntextLaw$Out;)I"⟩
abbrev cL_ahead : ByteArray := method_13_code
def yL_ahead : MethodName := ⟨RL, "ahead", "(LSigntext;IILSigntextLaw$Out;)I"⟩
abbrev cL_known : ByteArray := method_14_code
def yL_known : MethodName := ⟨RL, "known", "(LSigntext;IILSigntextLaw$Out;)I"⟩
abbrev cL_lay : ByteArray := method_15_code
def yL_lay : MethodName := ⟨RL, "lay", "(LSigntext;ILSigntextLaw$Out;)I"⟩
abbrev cL_set : ByteArray := method_16_code
def yL_set : MethodName := ⟨RL, "set", "(LSigntext;IILSigntextLaw$Out;)I"⟩
abbrev cL_take : ByteArray := method_17_code
def yL_take : MethodName := ⟨RL, "take", "(LSigntext;ILSigntextLaw$Out;)I"⟩
abbrev cL_takePart : ByteArray := method_18_code
def yL_takePart : MethodName := ⟨RL, "takePart", "(LSigntext;IIILSigntextLaw$Out;)I"⟩
abbrev cL_cut : ByteArray := method_19_code
def yL_cut : MethodName := ⟨RL, "cut", "(LSigntext;ILSigntextLaw$Out;)I"⟩
abbrev cL_takePiece : ByteArray := method_20_code
def yL_takePiece : MethodName := ⟨RL, "takePiece", "(LSigntext;IILSigntextLaw$Out;)I"⟩
abbrev cL_text : ByteArray := method_21_code
def yL_text : MethodName := ⟨RL, "text", "(LSigntext;ILSigntextLaw$Out;)I"⟩
abbrev cL_length : ByteArray := method_22_code
def yL_length : MethodName := ⟨RL, "length", "(LSigntext;ILSigntextLaw$Out;)I"⟩
abbrev cL_at : ByteArray := method_23_code
def yL_at : MethodName := ⟨RL, "at", "(LSigntext;IILSigntextLaw$Out;)I"⟩
abbrev cL_isEmpty : ByteArray := method_24_code
def yL_isEmpty : MethodName := ⟨RL, "isEmpty", "(LSigntext;ILSigntextLaw$Out;)I"⟩
abbrev cL_isBlank : ByteArray := method_25_code
def yL_isBlank : MethodName := ⟨RL, "isBlank", "(LSigntext;ILSigntextLaw$Out;)I"⟩
abbrev cL_hash : ByteArray := method_26_code
def yL_hash : MethodName := ⟨RL, "hash", "(LSigntext;ILSigntextLaw$Out;)I"⟩
abbrev cL_first : ByteArray := method_27_code
def yL_first : MethodName := ⟨RL, "first", "(LSigntext;IILSigntextLaw$Out;)I"⟩
abbrev cL_last : ByteArray := method_28_code
def yL_last : MethodName := ⟨RL, "last", "(LSigntext;IILSigntextLaw$Out;)I"⟩
abbrev cL_next : ByteArray := method_29_code
def yL_next : MethodName := ⟨RL, "next", "(LSigntext;IIILSigntextLaw$Out;)I"⟩
abbrev cL_begins : ByteArray := method_30_code
def yL_begins : MethodName := ⟨RL, "begins", "(LSigntext;IIZLSigntextLaw$Out;)I"⟩
abbrev cL_stands : ByteArray := method_31_code
def yL_stands : MethodName := ⟨RL, "stands", "(LSigntext;IIIZLSigntextLaw$Out;)I"⟩
abbrev cL_firstOf : ByteArray := method_32_code
def yL_firstOf : MethodName := ⟨RL, "firstOf", "(LSigntext;IILSigntextLaw$Out;)I"⟩
abbrev cL_lastOf : ByteArray := method_33_code
def yL_lastOf : MethodName := ⟨RL, "lastOf", "(LSigntext;IILSigntextLaw$Out;)I"⟩
abbrev cL_isIn : ByteArray := method_34_code
def yL_isIn : MethodName := ⟨RL, "isIn", "(LSigntext;IILSigntextLaw$Out;)I"⟩
abbrev cL_isSame : ByteArray := method_35_code
def yL_isSame : MethodName := ⟨RL, "isSame", "(LSigntext;IIZLSigntextLaw$Out;)I"⟩
abbrev cL_order : ByteArray := method_36_code
def yL_order : MethodName := ⟨RL, "order", "(LSigntext;IILSigntextLaw$Out;)I"⟩
abbrev cL_orderLike : ByteArray := method_37_code
def yL_orderLike : MethodName := ⟨RL, "orderLike", "(LSigntext;IILSigntextLaw$Out;)I"⟩
abbrev cL_rowAt : ByteArray := method_38_code
def yL_rowAt : MethodName := ⟨RL, "rowAt", "(LSigntext;ILSigntextLaw$Out;)I"⟩
abbrev cL_piece : ByteArray := method_39_code
def yL_piece : MethodName := ⟨RL, "piece", "(LSigntext;ILSigntextLaw$Out;)I"⟩
abbrev cL_isPiece : ByteArray := method_40_code
def yL_isPiece : MethodName := ⟨RL, "isPiece", "(LSigntext;IILSigntextLaw$Out;)I"⟩
abbrev cL_house : ByteArray := method_41_code
def yL_house : MethodName := ⟨RL, "house", "(LSigntext;ILSigntextLaw$Out;)I"⟩
abbrev cL_law : ByteArray := code
def yL_law : MethodName := ⟨RL, "law", "([I)Z"⟩
abbrev vwCl : List vw_C := [(RJ0, TJ0, 4), (RJ4, TJ4, 4), (RJx35411, TJx35411, 4), (RJx4a65c, TJx4a65c, 3), (RX0, TX0, 2), (RX1, TX1, 3), (RX2, TX2, 8), (RX3, TX3, 2), (RX4, TX4, 5)]
