def RX0 : String := "CriersOffice$BarredPieces"
def TX0 : u_T := fun k => match k with
  | 0 => ("CriersOffice$BarredPieces", "signs", "[B", true)
  | 1 => ("CriersOffice$BarredPieces", "lengths", "[I", true)
  | _ => ("CriersOffice$BarredPieces", "count", "I", false)
def tyX0 : Nat → FieldType := fun k => match k with
  | 0 => .array .byte
  | 1 => .array .int
  | _ => .int
theorem nmX0 : ∀ a, a < 3 → ∀ b, b < 3 → a ≠ b → (TX0 a).2.1 ≠ (TX0 b).2.1 := by decide +kernel
theorem tyX0_ok : ∀ k, k < 3 → parseFieldDescriptor (TX0 k).2.2.1 = some (tyX0 k) := by decide +kernel
abbrev cX0_init : ByteArray := prog_2_method_1_code
def yX0_init : MethodName := ⟨RX0, "<init>", "()V"⟩
abbrev cX0_takeFrom : ByteArray := prog_2_method_2_code
def yX0_takeFrom : MethodName := ⟨RX0, "takeFrom", "(LCriersOffice$Sheet;)V"⟩
abbrev cX0_firstIn : ByteArray := prog_2_method_3_code
def yX0_firstIn : MethodName := ⟨RX0, "firstIn", "(LCriersOffice$Sheet;)I"⟩
abbrev cX0_keep : ByteArray := prog_2_method_4_code
def yX0_keep : MethodName := ⟨RX0, "keep", "(LCriersOffice$Sheet;II)V"⟩
abbrev cX0_isAlikeAny : ByteArray := prog_2_method_5_code
def yX0_isAlikeAny : MethodName := ⟨RX0, "isAlikeAny", "(LCriersOffice$Sheet;II)Z"⟩
abbrev cX0_isAlike : ByteArray := prog_2_method_6_code
def yX0_isAlike : MethodName := ⟨RX0, "isAlike", "(ILCriersOffice$Sheet;I)Z"⟩
def RX1 : String := "CriersOffice$Crier"
def TX1 : u_T := fun k => match k with
  | 0 => ("CriersOffice$Crier", "square", "I", false)
  | _ => ("CriersOffice$Crier", "free", "I", false)
def tyX1 : Nat → FieldType := fun k => match k with
  | 0 => .int
  | _ => .int
theorem nmX1 : ∀ a, a < 2 → ∀ b, b < 2 → a ≠ b → (TX1 a).2.1 ≠ (TX1 b).2.1 := by decide +kernel
theorem tyX1_ok : ∀ k, k < 2 → parseFieldDescriptor (TX1 k).2.2.1 = some (tyX1 k) := by decide +kernel
abbrev cX1_init : ByteArray := prog_3_method_1_code
def yX1_init : MethodName := ⟨RX1, "<init>", "(I)V"⟩
abbrev cX1_stand : ByteArray := prog_3_method_2_code
def yX1_stand : MethodName := ⟨RX1, "stand", "(II)V"⟩
def RX2 : String := "CriersOffice$Cry"
def TX2 : u_T := fun k => match k with
  | 0 => ("CriersOffice$Cry", "notice", "I", true)
  | 1 => ("CriersOffice$Cry", "crier", "I", true)
  | 2 => ("CriersOffice$Cry", "square", "I", true)
  | 3 => ("CriersOffice$Cry", "day", "I", true)
  | 4 => ("CriersOffice$Cry", "minute", "I", true)
  | _ => ("CriersOffice$Cry", "counted", "Z", true)
def tyX2 : Nat → FieldType := fun k => match k with
  | 0 => .int
  | 1 => .int
  | 2 => .int
  | 3 => .int
  | 4 => .int
  | _ => .boolean
theorem nmX2 : ∀ a, a < 6 → ∀ b, b < 6 → a ≠ b → (TX2 a).2.1 ≠ (TX2 b).2.1 := by decide +kernel
theorem tyX2_ok : ∀ k, k < 6 → parseFieldDescriptor (TX2 k).2.2.1 = some (tyX2 k) := by decide +kernel
abbrev cX2_init : ByteArray := prog_4_method_1_code
def yX2_init : MethodName := ⟨RX2, "<init>", "(IIIIIZ)V"⟩
def RX3 : String := "CriersOffice$Move"
def TX3 : u_T := fun k => match k with
  | 0 => ("CriersOffice$Move", "square", "I", true)
  | 1 => ("CriersOffice$Move", "from", "I", true)
  | 2 => ("CriersOffice$Move", "to", "I", true)
  | _ => ("CriersOffice$Move", "known", "I", true)
def tyX3 : Nat → FieldType := fun k => match k with
  | 0 => .int
  | 1 => .int
  | 2 => .int
  | _ => .int
theorem nmX3 : ∀ a, a < 4 → ∀ b, b < 4 → a ≠ b → (TX3 a).2.1 ≠ (TX3 b).2.1 := by decide +kernel
theorem tyX3_ok : ∀ k, k < 4 → parseFieldDescriptor (TX3 k).2.2.1 = some (tyX3 k) := by decide +kernel
abbrev cX3_init : ByteArray := prog_5_method_1_code
def yX3_init : MethodName := ⟨RX3, "<init>", "(IIII)V"⟩
def RX4 : String := "CriersOffice$Notice"
def TX4 : u_T := fun k => match k with
  | 0 => ("CriersOffice$Notice", "kind", "I", true)
  | 1 => ("CriersOffice$Notice", "words", "I", true)
  | 2 => ("CriersOffice$Notice", "squares", "I", true)
  | 3 => ("CriersOffice$Notice", "times", "I", true)
  | 4 => ("CriersOffice$Notice", "marks", "I", true)
  | 5 => ("CriersOffice$Notice", "day", "I", true)
  | 6 => ("CriersOffice$Notice", "counts", "[I", true)
  | 7 => ("CriersOffice$Notice", "latestDays", "[I", true)
  | _ => ("CriersOffice$Notice", "takenBack", "Z", false)
def tyX4 : Nat → FieldType := fun k => match k with
  | 0 => .int
  | 1 => .int
  | 2 => .int
  | 3 => .int
  | 4 => .int
  | 5 => .int
  | 6 => .array .int
  | 7 => .array .int
  | _ => .boolean
theorem nmX4 : ∀ a, a < 9 → ∀ b, b < 9 → a ≠ b → (TX4 a).2.1 ≠ (TX4 b).2.1 := by decide +kernel
theorem tyX4_ok : ∀ k, k < 9 → parseFieldDescriptor (TX4 k).2.2.1 = some (tyX4 k) := by decide +kernel
abbrev cX4_init : ByteArray := prog_6_method_1_code
def yX4_init : MethodName := ⟨RX4, "<init>", "(IIIIII)V"⟩
abbrev cX4_lacksCryAt : ByteArray := prog_6_method_2_code
def yX4_lacksCryAt : MethodName := ⟨RX4, "lacksCryAt", "(I)Z"⟩
abbrev cX4_lackingSquares : ByteArray := prog_6_method_3_code
def yX4_lackingSquares : MethodName := ⟨RX4, "lackingSquares", "()I"⟩
abbrev cX4_isDone : ByteArray := prog_6_method_4_code
def yX4_isDone : MethodName := ⟨RX4, "isDone", "()Z"⟩
abbrev cX4_countedInAll : ByteArray := prog_6_method_5_code
def yX4_countedInAll : MethodName := ⟨RX4, "countedInAll", "()I"⟩
abbrev cX4_minutesToCry : ByteArray := prog_6_method_6_code
def yX4_minutesToCry : MethodName := ⟨RX4, "minutesToCry", "()I"⟩
abbrev cX4_countCry : ByteArray := prog_6_method_7_code
def yX4_countCry : MethodName := ⟨RX4, "countCry", "(II)V"⟩
def RX5 : String := "CriersOffice$Round"
def TX5 : u_T := fun k => match k with
  | 0 => ("CriersOffice$Round", "order", "[I", true)
  | 1 => ("CriersOffice$Round", "length", "I", false)
  | 2 => ("CriersOffice$Round", "least", "[I", false)
  | _ => ("CriersOffice$Round", "measured", "I", false)
def tyX5 : Nat → FieldType := fun k => match k with
  | 0 => .array .int
  | 1 => .int
  | 2 => .array .int
  | _ => .int
theorem nmX5 : ∀ a, a < 4 → ∀ b, b < 4 → a ≠ b → (TX5 a).2.1 ≠ (TX5 b).2.1 := by decide +kernel
theorem tyX5_ok : ∀ k, k < 4 → parseFieldDescriptor (TX5 k).2.2.1 = some (tyX5 k) := by decide +kernel
abbrev cX5_init : ByteArray := prog_7_method_1_code
def yX5_init : MethodName := ⟨RX5, "<init>", "()V"⟩
abbrev cX5_squareAt : ByteArray := prog_7_method_2_code
def yX5_squareAt : MethodName := ⟨RX5, "squareAt", "(I)I"⟩
abbrev cX5_plan : ByteArray := prog_7_method_3_code
def yX5_plan : MethodName := ⟨RX5, "plan", "(Ljava/util/ArrayList;II)I"⟩
abbrev cX5_measureAll : ByteArray := prog_7_method_4_code
def yX5_measureAll : MethodName := ⟨RX5, "measureAll", "(Ljava/util/ArrayList;)V"⟩
abbrev cX5_bestNext : ByteArray := prog_7_method_5_code
def yX5_bestNext : MethodName := ⟨RX5, "bestNext", "(Ljava/util/ArrayList;II)I"⟩
abbrev cX5_walkOver : ByteArray := prog_7_method_6_code
def yX5_walkOver : MethodName := ⟨RX5, "walkOver", "(Ljava/util/ArrayList;III)I"⟩
def RX6 : String := "CriersOffice$Sheet"
def TX6 : u_T := fun k => match k with
  | 0 => ("CriersOffice$Sheet", "signs", "[B", true)
  | _ => ("CriersOffice$Sheet", "size", "I", false)
def tyX6 : Nat → FieldType := fun k => match k with
  | 0 => .array .byte
  | _ => .int
theorem nmX6 : ∀ a, a < 2 → ∀ b, b < 2 → a ≠ b → (TX6 a).2.1 ≠ (TX6 b).2.1 := by decide +kernel
theorem tyX6_ok : ∀ k, k < 2 → parseFieldDescriptor (TX6 k).2.2.1 = some (tyX6 k) := by decide +kernel
abbrev cX6_init : ByteArray := prog_8_method_1_code
def yX6_init : MethodName := ⟨RX6, "<init>", "()V"⟩
abbrev cX6_isMissing : ByteArray := prog_8_method_2_code
def yX6_isMissing : MethodName := ⟨RX6, "isMissing", "()Z"⟩
abbrev cX6_lose : ByteArray := prog_8_method_3_code
def yX6_lose : MethodName := ⟨RX6, "lose", "()V"⟩
abbrev cX6_begin : ByteArray := prog_8_method_4_code
def yX6_begin : MethodName := ⟨RX6, "begin", "(I)V"⟩
abbrev cX6_hasRun : ByteArray := prog_8_method_5_code
def yX6_hasRun : MethodName := ⟨RX6, "hasRun", "(II)Z"⟩
abbrev cX6_startsPiece : ByteArray := prog_8_method_6_code
def yX6_startsPiece : MethodName := ⟨RX6, "startsPiece", "(I)Z"⟩
abbrev cX6_pieceLength : ByteArray := prog_8_method_7_code
def yX6_pieceLength : MethodName := ⟨RX6, "pieceLength", "(I)I"⟩
abbrev cX6_wordCount : ByteArray := prog_8_method_8_code
def yX6_wordCount : MethodName := ⟨RX6, "wordCount", "()I"⟩
abbrev cX6_digestOnto : ByteArray := prog_8_method_9_code
def yX6_digestOnto : MethodName := ⟨RX6, "digestOnto", "(J)J"⟩
abbrev cX6_isFigure : ByteArray := prog_8_method_10_code
def yX6_isFigure : MethodName := ⟨RX6, "isFigure", "(I)Z"⟩
abbrev cX6_isOfPiece : ByteArray := prog_8_method_11_code
def yX6_isOfPiece : MethodName := ⟨RX6, "isOfPiece", "(I)Z"⟩
abbrev cX6_asSmall : ByteArray := prog_8_method_12_code
def yX6_asSmall : MethodName := ⟨RX6, "asSmall", "(I)I"⟩
def RX7 : String := "CriersOffice$Square"
def TX7 : u_T := fun k => match k with
  | 0 => ("CriersOffice$Square", "x", "I", true)
  | 1 => ("CriersOffice$Square", "y", "I", true)
  | _ => ("CriersOffice$Square", "week", "I", true)
def tyX7 : Nat → FieldType := fun k => match k with
  | 0 => .int
  | 1 => .int
  | _ => .int
theorem nmX7 : ∀ a, a < 3 → ∀ b, b < 3 → a ≠ b → (TX7 a).2.1 ≠ (TX7 b).2.1 := by decide +kernel
theorem tyX7_ok : ∀ k, k < 3 → parseFieldDescriptor (TX7 k).2.2.1 = some (tyX7 k) := by decide +kernel
abbrev cX7_init : ByteArray := prog_9_method_1_code
def yX7_init : MethodName := ⟨RX7, "<init>", "(III)V"⟩
abbrev cX7_walkTo : ByteArray := prog_9_method_2_code
def yX7_walkTo : MethodName := ⟨RX7, "walkTo", "(LCriersOffice$Square;)I"⟩
abbrev cX7_hasInWeek : ByteArray := prog_9_method_3_code
def yX7_hasInWeek : MethodName := ⟨RX7, "hasInWeek", "(I)Z"⟩
def RX8 : String := "CriersOffice$Stay"
def TX8 : u_T := fun k => match k with
  | 0 => ("CriersOffice$Stay", "person", "I", true)
  | 1 => ("CriersOffice$Stay", "square", "I", true)
  | 2 => ("CriersOffice$Stay", "day", "I", true)
  | 3 => ("CriersOffice$Stay", "from", "I", true)
  | _ => ("CriersOffice$Stay", "to", "I", true)
def tyX8 : Nat → FieldType := fun k => match k with
  | 0 => .int
  | 1 => .int
  | 2 => .int
  | 3 => .int
  | _ => .int
theorem nmX8 : ∀ a, a < 5 → ∀ b, b < 5 → a ≠ b → (TX8 a).2.1 ≠ (TX8 b).2.1 := by decide +kernel
theorem tyX8_ok : ∀ k, k < 5 → parseFieldDescriptor (TX8 k).2.2.1 = some (tyX8 k) := by decide +kernel
abbrev cX8_init : ByteArray := prog_10_method_1_code
def yX8_init : MethodName := ⟨RX8, "<init>", "(IIIII)V"⟩
def RX9 : String := "CriersOffice"
def TX9 : u_T := fun k => match k with
  | 0 => ("CriersOffice", "squares", "Ljava/util/ArrayList;", true)
  | 1 => ("CriersOffice", "moves", "Ljava/util/ArrayList;", true)
  | 2 => ("CriersOffice", "notices", "Ljava/util/ArrayList;", true)
  | 3 => ("CriersOffice", "criers", "Ljava/util/ArrayList;", true)
  | 4 => ("CriersOffice", "cries", "Ljava/util/ArrayList;", true)
  | 5 => ("CriersOffice", "stays", "Ljava/util/ArrayList;", true)
  | 6 => ("CriersOffice", "sheets", "[LCriersOffice$Sheet;", true)
  | 7 => ("CriersOffice", "barredPieces", "LCriersOffice$BarredPieces;", true)
  | 8 => ("CriersOffice", "latestRound", "LCriersOffice$Round;", true)
  | 9 => ("CriersOffice", "rates", "[I", true)
  | 10 => ("CriersOffice", "findingCounts", "[I", true)
  | 11 => ("CriersOffice", "latestFinding", "I", false)
  | 12 => ("CriersOffice", "today", "I", false)
  | _ => ("CriersOffice", "reach", "I", false)
def tyX9 : Nat → FieldType := fun k => match k with
  | 0 => .object "java/util/ArrayList"
  | 1 => .object "java/util/ArrayList"
  | 2 => .object "java/util/ArrayList"
  | 3 => .object "java/util/ArrayList"
  | 4 => .object "java/util/ArrayList"
  | 5 => .object "java/util/ArrayList"
  | 6 => .array (.object "CriersOffice$Sheet")
  | 7 => .object "CriersOffice$BarredPieces"
  | 8 => .object "CriersOffice$Round"
  | 9 => .array .int
  | 10 => .array .int
  | 11 => .int
  | 12 => .int
  | _ => .int
theorem nmX9 : ∀ a, a < 14 → ∀ b, b < 14 → a ≠ b → (TX9 a).2.1 ≠ (TX9 b).2.1 := by decide +kernel
theorem tyX9_ok : ∀ k, k < 14 → parseFieldDescriptor (TX9 k).2.2.1 = some (tyX9 k) := by decide +kernel
abbrev cX9_init : ByteArray := prog_1_method_1_code
def yX9_init : MethodName := ⟨RX9, "<init>", "()V"⟩
abbrev cX9_square : ByteArray := prog_1_method_2_code
def yX9_square : MethodName := ⟨RX9, "square", "(III)I"⟩
abbrev cX9_walk : ByteArray := prog_1_method_3_code
def yX9_walk : MethodName := ⟨RX9, "walk", "(II)I"⟩
abbrev cX9_hearing : ByteArray := prog_1_method_4_code
def yX9_hearing : MethodName := ⟨RX9, "hearing", "(I)I"⟩
abbrev cX9_later : ByteArray := prog_1_method_5_code
def yX9_later : MethodName := ⟨RX9, "later", "(I)I"⟩
abbrev cX9_move : ByteArray := prog_1_method_6_code
def yX9_move : MethodName := ⟨RX9, "move", "(IIII)I"⟩
abbrev cX9_market : ByteArray := prog_1_method_7_code
def yX9_market : MethodName := ⟨RX9, "market", "(III)I"⟩
abbrev cX9_sheet : ByteArray := prog_1_method_8_code
def yX9_sheet : MethodName := ⟨RX9, "sheet", "(II)I"⟩
abbrev cX9_lay : ByteArray := prog_1_method_9_code
def yX9_lay : MethodName := ⟨RX9, "lay", "(III)I"⟩
abbrev cX9_tear : ByteArray := prog_1_method_10_code
def yX9_tear : MethodName := ⟨RX9, "tear", "(I)I"⟩
abbrev cX9_copy : ByteArray := prog_1_method_11_code
def yX9_copy : MethodName := ⟨RX9, "copy", "(IIIII)I"⟩
abbrev cX9_words : ByteArray := prog_1_method_12_code
def yX9_words : MethodName := ⟨RX9, "words", "(I)I"⟩
abbrev cX9_bar : ByteArray := prog_1_method_13_code
def yX9_bar : MethodName := ⟨RX9, "bar", "(I)I"⟩
abbrev cX9_barred : ByteArray := prog_1_method_14_code
def yX9_barred : MethodName := ⟨RX9, "barred", "(I)I"⟩
abbrev cX9_rate : ByteArray := prog_1_method_15_code
def yX9_rate : MethodName := ⟨RX9, "rate", "(II)I"⟩
abbrev cX9_notice : ByteArray := prog_1_method_16_code
def yX9_notice : MethodName := ⟨RX9, "notice", "(IIIII)I"⟩
abbrev cX9_told : ByteArray := prog_1_method_17_code
def yX9_told : MethodName := ⟨RX9, "told", "(II)I"⟩
abbrev cX9_mark : ByteArray := prog_1_method_18_code
def yX9_mark : MethodName := ⟨RX9, "mark", "(II)I"⟩
abbrev cX9_fee : ByteArray := prog_1_method_19_code
def yX9_fee : MethodName := ⟨RX9, "fee", "(I)I"⟩
abbrev cX9_mean : ByteArray := prog_1_method_20_code
def yX9_mean : MethodName := ⟨RX9, "mean", "()I"⟩
abbrev cX9_back : ByteArray := prog_1_method_21_code
def yX9_back : MethodName := ⟨RX9, "back", "(I)I"⟩
abbrev cX9_crier : ByteArray := prog_1_method_22_code
def yX9_crier : MethodName := ⟨RX9, "crier", "(I)I"⟩
abbrev cX9_ready : ByteArray := prog_1_method_23_code
def yX9_ready : MethodName := ⟨RX9, "ready", "(II)I"⟩
abbrev cX9_cry : ByteArray := prog_1_method_24_code
def yX9_cry : MethodName := ⟨RX9, "cry", "(IIII)I"⟩
abbrev cX9_counted : ByteArray := prog_1_method_25_code
def yX9_counted : MethodName := ⟨RX9, "counted", "(II)I"⟩
abbrev cX9_cryTold : ByteArray := prog_1_method_26_code
def yX9_cryTold : MethodName := ⟨RX9, "cryTold", "(II)I"⟩
abbrev cX9_due : ByteArray := prog_1_method_27_code
def yX9_due : MethodName := ⟨RX9, "due", "(I)I"⟩
abbrev cX9_dueAt : ByteArray := prog_1_method_28_code
def yX9_dueAt : MethodName := ⟨RX9, "dueAt", "(II)I"⟩
abbrev cX9_present : ByteArray := prog_1_method_29_code
def yX9_present : MethodName := ⟨RX9, "present", "(IIII)I"⟩
abbrev cX9_heard : ByteArray := prog_1_method_30_code
def yX9_heard : MethodName := ⟨RX9, "heard", "(II)I"⟩
abbrev cX9_hearers : ByteArray := prog_1_method_31_code
def yX9_hearers : MethodName := ⟨RX9, "hearers", "(II)I"⟩
abbrev cX9_round : ByteArray := prog_1_method_32_code
def yX9_round : MethodName := ⟨RX9, "round", "(II)I"⟩
abbrev cX9_roundAt : ByteArray := prog_1_method_33_code
def yX9_roundAt : MethodName := ⟨RX9, "roundAt", "(I)I"⟩
abbrev cX9_joined : ByteArray := prog_1_method_34_code
def yX9_joined : MethodName := ⟨RX9, "joined", "(III)I"⟩
abbrev cX9_count : ByteArray := prog_1_method_35_code
def yX9_count : MethodName := ⟨RX9, "count", "(I)I"⟩
abbrev cX9_finding : ByteArray := prog_1_method_36_code
def yX9_finding : MethodName := ⟨RX9, "finding", "()I"⟩
abbrev cX9_findings : ByteArray := prog_1_method_37_code
def yX9_findings : MethodName := ⟨RX9, "findings", "(I)I"⟩
abbrev cX9_digest : ByteArray := prog_1_method_38_code
def yX9_digest : MethodName := ⟨RX9, "digest", "()J"⟩
abbrev cX9_isWithin : ByteArray := prog_1_method_39_code
def yX9_isWithin : MethodName := ⟨RX9, "isWithin", "(III)Z"⟩
abbrev cX9_isDay : ByteArray := prog_1_method_40_code
def yX9_isDay : MethodName := ⟨RX9, "isDay", "(I)Z"⟩
abbrev cX9_isMinute : ByteArray := prog_1_method_41_code
def yX9_isMinute : MethodName := ⟨RX9, "isMinute", "(I)Z"⟩
abbrev cX9_isSheet : ByteArray := prog_1_method_42_code
def yX9_isSheet : MethodName := ⟨RX9, "isSheet", "(I)Z"⟩
abbrev cX9_isKind : ByteArray := prog_1_method_43_code
def yX9_isKind : MethodName := ⟨RX9, "isKind", "(I)Z"⟩
abbrev cX9_isPerson : ByteArray := prog_1_method_44_code
def yX9_isPerson : MethodName := ⟨RX9, "isPerson", "(I)Z"⟩
abbrev cX9_isSquare : ByteArray := prog_1_method_45_code
def yX9_isSquare : MethodName := ⟨RX9, "isSquare", "(I)Z"⟩
abbrev cX9_isNotice : ByteArray := prog_1_method_46_code
def yX9_isNotice : MethodName := ⟨RX9, "isNotice", "(I)Z"⟩
abbrev cX9_isCrier : ByteArray := prog_1_method_47_code
def yX9_isCrier : MethodName := ⟨RX9, "isCrier", "(I)Z"⟩
abbrev cX9_areSquares : ByteArray := prog_1_method_48_code
def yX9_areSquares : MethodName := ⟨RX9, "areSquares", "(I)Z"⟩
abbrev cX9_isOfKind : ByteArray := prog_1_method_49_code
def yX9_isOfKind : MethodName := ⟨RX9, "isOfKind", "(II)Z"⟩
abbrev cX9_asAnswer : ByteArray := prog_1_method_50_code
def yX9_asAnswer : MethodName := ⟨RX9, "asAnswer", "(Z)I"⟩
abbrev cX9_find : ByteArray := prog_1_method_51_code
def yX9_find : MethodName := ⟨RX9, "find", "(I)I"⟩
abbrev cX9_walkBetween : ByteArray := prog_1_method_52_code
def yX9_walkBetween : MethodName := ⟨RX9, "walkBetween", "(II)I"⟩
abbrev cX9_areInHearing : ByteArray := prog_1_method_53_code
def yX9_areInHearing : MethodName := ⟨RX9, "areInHearing", "(II)Z"⟩
abbrev cX9_wasCryToday : ByteArray := prog_1_method_54_code
def yX9_wasCryToday : MethodName := ⟨RX9, "wasCryToday", "()Z"⟩
abbrev cX9_hasMarket : ByteArray := prog_1_method_55_code
def yX9_hasMarket : MethodName := ⟨RX9, "hasMarket", "(III)Z"⟩
abbrev cX9_feeOf : ByteArray := prog_1_method_56_code
def yX9_feeOf : MethodName := ⟨RX9, "feeOf", "(LCriersOffice$Notice;)I"⟩
abbrev cX9_readyMinute : ByteArray := prog_1_method_57_code
def yX9_readyMinute : MethodName := ⟨RX9, "readyMinute", "(LCriersOffice$Crier;I)I"⟩
abbrev cX9_isDrowned : ByteArray := prog_1_method_58_code
def yX9_isDrowned : MethodName := ⟨RX9, "isDrowned", "(III)Z"⟩
abbrev cX9_wouldCount : ByteArray := prog_1_method_59_code
def yX9_wouldCount : MethodName := ⟨RX9, "wouldCount", "(LCriersOffice$Notice;I)Z"⟩
abbrev cX9_heardTimes : ByteArray := prog_1_method_60_code
def yX9_heardTimes : MethodName := ⟨RX9, "heardTimes", "(II)I"⟩
abbrev cX9_wasInHearing : ByteArray := prog_1_method_61_code
def yX9_wasInHearing : MethodName := ⟨RX9, "wasInHearing", "(ILCriersOffice$Cry;)Z"⟩
abbrev cX9_areJoined : ByteArray := prog_1_method_62_code
def yX9_areJoined : MethodName := ⟨RX9, "areJoined", "(LCriersOffice$Notice;LCriersOffice$Notice;I)Z"⟩
abbrev cX9_lostJoinedWith : ByteArray := prog_1_method_63_code
def yX9_lostJoinedWith : MethodName := ⟨RX9, "lostJoinedWith", "(LCriersOffice$Notice;)I"⟩
def RX10 : String := "CriersOfficeModel"
def TX10 : u_T := fun k => match k with
  | 0 => ("CriersOfficeModel", "finding", "I", false)
  | 1 => ("CriersOfficeModel", "findings", "[I", true)
  | 2 => ("CriersOfficeModel", "today", "I", false)
  | 3 => ("CriersOfficeModel", "squares", "I", false)
  | 4 => ("CriersOfficeModel", "xs", "[I", true)
  | 5 => ("CriersOfficeModel", "ys", "[I", true)
  | 6 => ("CriersOfficeModel", "weeks", "[I", true)
  | 7 => ("CriersOfficeModel", "hearing", "I", false)
  | 8 => ("CriersOfficeModel", "moves", "I", false)
  | 9 => ("CriersOfficeModel", "moveSquare", "[I", true)
  | 10 => ("CriersOfficeModel", "moveFrom", "[I", true)
  | 11 => ("CriersOfficeModel", "moveTo", "[I", true)
  | 12 => ("CriersOfficeModel", "moveKnown", "[I", true)
  | 13 => ("CriersOfficeModel", "sizes", "[I", true)
  | 14 => ("CriersOfficeModel", "signs", "[I", true)
  | 15 => ("CriersOfficeModel", "moving", "[I", true)
  | 16 => ("CriersOfficeModel", "bars", "I", false)
  | 17 => ("CriersOfficeModel", "barLengths", "[I", true)
  | 18 => ("CriersOfficeModel", "barSigns", "[I", true)
  | 19 => ("CriersOfficeModel", "rates", "[I", true)
  | 20 => ("CriersOfficeModel", "notices", "I", false)
  | 21 => ("CriersOfficeModel", "kinds", "[I", true)
  | 22 => ("CriersOfficeModel", "words", "[I", true)
  | 23 => ("CriersOfficeModel", "wheres", "[I", true)
  | 24 => ("CriersOfficeModel", "times", "[I", true)
  | 25 => ("CriersOfficeModel", "marks", "[I", true)
  | 26 => ("CriersOfficeModel", "taken", "[I", true)
  | 27 => ("CriersOfficeModel", "isBack", "[Z", true)
  | 28 => ("CriersOfficeModel", "criers", "I", false)
  | 29 => ("CriersOfficeModel", "crierAt", "[I", true)
  | 30 => ("CriersOfficeModel", "freeFrom", "[I", true)
  | 31 => ("CriersOfficeModel", "cries", "I", false)
  | 32 => ("CriersOfficeModel", "cryNotice", "[I", true)
  | 33 => ("CriersOfficeModel", "cryCrier", "[I", true)
  | 34 => ("CriersOfficeModel", "cryAt", "[I", true)
  | 35 => ("CriersOfficeModel", "cryDay", "[I", true)
  | 36 => ("CriersOfficeModel", "cryMinute", "[I", true)
  | 37 => ("CriersOfficeModel", "cryCounts", "[I", true)
  | 38 => ("CriersOfficeModel", "presences", "I", false)
  | 39 => ("CriersOfficeModel", "whos", "[I", true)
  | 40 => ("CriersOfficeModel", "whereWas", "[I", true)
  | 41 => ("CriersOfficeModel", "whenWas", "[I", true)
  | 42 => ("CriersOfficeModel", "fromWas", "[I", true)
  | 43 => ("CriersOfficeModel", "toWas", "[I", true)
  | 44 => ("CriersOfficeModel", "least", "[I", true)
  | 45 => ("CriersOfficeModel", "roundMany", "I", false)
  | _ => ("CriersOfficeModel", "roundRow", "[I", true)
def tyX10 : Nat → FieldType := fun k => match k with
  | 0 => .int
  | 1 => .array .int
  | 2 => .int
  | 3 => .int
  | 4 => .array .int
  | 5 => .array .int
  | 6 => .array .int
  | 7 => .int
  | 8 => .int
  | 9 => .array .int
  | 10 => .array .int
  | 11 => .array .int
  | 12 => .array .int
  | 13 => .array .int
  | 14 => .array .int
  | 15 => .array .int
  | 16 => .int
  | 17 => .array .int
  | 18 => .array .int
  | 19 => .array .int
  | 20 => .int
  | 21 => .array .int
  | 22 => .array .int
  | 23 => .array .int
  | 24 => .array .int
  | 25 => .array .int
  | 26 => .array .int
  | 27 => .array .boolean
  | 28 => .int
  | 29 => .array .int
  | 30 => .array .int
  | 31 => .int
  | 32 => .array .int
  | 33 => .array .int
  | 34 => .array .int
  | 35 => .array .int
  | 36 => .array .int
  | 37 => .array .int
  | 38 => .int
  | 39 => .array .int
  | 40 => .array .int
  | 41 => .array .int
  | 42 => .array .int
  | 43 => .array .int
  | 44 => .array .int
  | 45 => .int
  | _ => .array .int
theorem nmX10 : ∀ a, a < 47 → ∀ b, b < 47 → a ≠ b → (TX10 a).2.1 ≠ (TX10 b).2.1 := by decide +kernel
theorem tyX10_ok : ∀ k, k < 47 → parseFieldDescriptor (TX10 k).2.2.1 = some (tyX10 k) := by decide +kernel
abbrev cX10_init : ByteArray := prog_12_method_1_code
def yX10_init : MethodName := ⟨RX10, "<init>", "()V"⟩
abbrev cX10_in : ByteArray := prog_12_method_3_code
def yX10_in : MethodName := ⟨RX10, "in", "(III)Z"⟩
abbrev cX10_meets : ByteArray := prog_12_method_4_code
def yX10_meets : MethodName := ⟨RX10, "meets", "(I)I"⟩
abbrev cX10_has : ByteArray := prog_12_method_5_code
def yX10_has : MethodName := ⟨RX10, "has", "(II)Z"⟩
abbrev cX10_bits : ByteArray := prog_12_method_6_code
def yX10_bits : MethodName := ⟨RX10, "bits", "(I)I"⟩
abbrev cX10_isSquare : ByteArray := prog_12_method_7_code
def yX10_isSquare : MethodName := ⟨RX10, "isSquare", "(I)Z"⟩
abbrev cX10_square : ByteArray := prog_12_method_8_code
def yX10_square : MethodName := ⟨RX10, "square", "(III)I"⟩
abbrev cX10_walks : ByteArray := prog_12_method_9_code
def yX10_walks : MethodName := ⟨RX10, "walks", "(II)I"⟩
abbrev cX10_walk : ByteArray := prog_12_method_10_code
def yX10_walk : MethodName := ⟨RX10, "walk", "(II)I"⟩
abbrev cX10_hearing : ByteArray := prog_12_method_11_code
def yX10_hearing : MethodName := ⟨RX10, "hearing", "(I)I"⟩
abbrev cX10_later : ByteArray := prog_12_method_12_code
def yX10_later : MethodName := ⟨RX10, "later", "(I)I"⟩
abbrev cX10_isDay : ByteArray := prog_12_method_13_code
def yX10_isDay : MethodName := ⟨RX10, "isDay", "(I)Z"⟩
abbrev cX10_move : ByteArray := prog_12_method_14_code
def yX10_move : MethodName := ⟨RX10, "move", "(IIII)I"⟩
abbrev cX10_hasMarket : ByteArray := prog_12_method_15_code
def yX10_hasMarket : MethodName := ⟨RX10, "hasMarket", "(III)Z"⟩
abbrev cX10_market : ByteArray := prog_12_method_16_code
def yX10_market : MethodName := ⟨RX10, "market", "(III)I"⟩
abbrev cX10_isSheet : ByteArray := prog_12_method_17_code
def yX10_isSheet : MethodName := ⟨RX10, "isSheet", "(I)Z"⟩
abbrev cX10_looked : ByteArray := prog_12_method_18_code
def yX10_looked : MethodName := ⟨RX10, "looked", "(I)I"⟩
abbrev cX10_sheet : ByteArray := prog_12_method_19_code
def yX10_sheet : MethodName := ⟨RX10, "sheet", "(II)I"⟩
abbrev cX10_lay : ByteArray := prog_12_method_20_code
def yX10_lay : MethodName := ⟨RX10, "lay", "(III)I"⟩
abbrev cX10_tear : ByteArray := prog_12_method_21_code
def yX10_tear : MethodName := ⟨RX10, "tear", "(I)I"⟩
abbrev cX10_copy : ByteArray := prog_12_method_22_code
def yX10_copy : MethodName := ⟨RX10, "copy", "(IIIII)I"⟩
abbrev cX10_isFigure : ByteArray := prog_12_method_23_code
def yX10_isFigure : MethodName := ⟨RX10, "isFigure", "(I)Z"⟩
abbrev cX10_small : ByteArray := prog_12_method_24_code
def yX10_small : MethodName := ⟨RX10, "small", "(I)I"⟩
abbrev cX10_isSign : ByteArray := prog_12_method_25_code
def yX10_isSign : MethodName := ⟨RX10, "isSign", "(I)Z"⟩
abbrev cX10_signAt : ByteArray := prog_12_method_26_code
def yX10_signAt : MethodName := ⟨RX10, "signAt", "(II)I"⟩
abbrev cX10_pieceAt : ByteArray := prog_12_method_27_code
def yX10_pieceAt : MethodName := ⟨RX10, "pieceAt", "(II)I"⟩
abbrev cX10_wordsOf : ByteArray := prog_12_method_28_code
def yX10_wordsOf : MethodName := ⟨RX10, "wordsOf", "(I)I"⟩
abbrev cX10_words : ByteArray := prog_12_method_29_code
def yX10_words : MethodName := ⟨RX10, "words", "(I)I"⟩
abbrev cX10_bar : ByteArray := prog_12_method_30_code
def yX10_bar : MethodName := ⟨RX10, "bar", "(I)I"⟩
abbrev cX10_barredIn : ByteArray := prog_12_method_31_code
def yX10_barredIn : MethodName := ⟨RX10, "barredIn", "(I)I"⟩
abbrev cX10_barred : ByteArray := prog_12_method_32_code
def yX10_barred : MethodName := ⟨RX10, "barred", "(I)I"⟩
abbrev cX10_rate : ByteArray := prog_12_method_33_code
def yX10_rate : MethodName := ⟨RX10, "rate", "(II)I"⟩
abbrev cX10_areSquares : ByteArray := prog_12_method_34_code
def yX10_areSquares : MethodName := ⟨RX10, "areSquares", "(I)Z"⟩
abbrev cX10_isNotice : ByteArray := prog_12_method_35_code
def yX10_isNotice : MethodName := ⟨RX10, "isNotice", "(I)Z"⟩
abbrev cX10_fits : ByteArray := prog_12_method_36_code
def yX10_fits : MethodName := ⟨RX10, "fits", "(II)Z"⟩
abbrev cX10_notice : ByteArray := prog_12_method_37_code
def yX10_notice : MethodName := ⟨RX10, "notice", "(IIIII)I"⟩
abbrev cX10_countedAt : ByteArray := prog_12_method_38_code
def yX10_countedAt : MethodName := ⟨RX10, "countedAt", "(II)I"⟩
abbrev cX10_lacks : ByteArray := prog_12_method_39_code
def yX10_lacks : MethodName := ⟨RX10, "lacks", "(I)I"⟩
abbrev cX10_tells : ByteArray := prog_12_method_40_code
def yX10_tells : MethodName := ⟨RX10, "tells", "(II)I"⟩
abbrev cX10_told : ByteArray := prog_12_method_41_code
def yX10_told : MethodName := ⟨RX10, "told", "(II)I"⟩
abbrev cX10_feeOf : ByteArray := prog_12_method_42_code
def yX10_feeOf : MethodName := ⟨RX10, "feeOf", "(I)I"⟩
abbrev cX10_joins : ByteArray := prog_12_method_43_code
def yX10_joins : MethodName := ⟨RX10, "joins", "(III)Z"⟩
abbrev cX10_mark : ByteArray := prog_12_method_44_code
def yX10_mark : MethodName := ⟨RX10, "mark", "(II)I"⟩
abbrev cX10_fee : ByteArray := prog_12_method_45_code
def yX10_fee : MethodName := ⟨RX10, "fee", "(I)I"⟩
abbrev cX10_mean : ByteArray := prog_12_method_46_code
def yX10_mean : MethodName := ⟨RX10, "mean", "()I"⟩
abbrev cX10_back : ByteArray := prog_12_method_47_code
def yX10_back : MethodName := ⟨RX10, "back", "(I)I"⟩
abbrev cX10_isCrier : ByteArray := prog_12_method_48_code
def yX10_isCrier : MethodName := ⟨RX10, "isCrier", "(I)Z"⟩
abbrev cX10_crier : ByteArray := prog_12_method_49_code
def yX10_crier : MethodName := ⟨RX10, "crier", "(I)I"⟩
abbrev cX10_readyAt : ByteArray := prog_12_method_50_code
def yX10_readyAt : MethodName := ⟨RX10, "readyAt", "(II)I"⟩
abbrev cX10_ready : ByteArray := prog_12_method_51_code
def yX10_ready : MethodName := ⟨RX10, "ready", "(II)I"⟩
abbrev cX10_wouldCount : ByteArray := prog_12_method_52_code
def yX10_wouldCount : MethodName := ⟨RX10, "wouldCount", "(II)Z"⟩
abbrev cX10_isTooNear : ByteArray := prog_12_method_53_code
def yX10_isTooNear : MethodName := ⟨RX10, "isTooNear", "(III)Z"⟩
abbrev cX10_cry : ByteArray := prog_12_method_54_code
def yX10_cry : MethodName := ⟨RX10, "cry", "(IIII)I"⟩
abbrev cX10_counted : ByteArray := prog_12_method_55_code
def yX10_counted : MethodName := ⟨RX10, "counted", "(II)I"⟩
abbrev cX10_tellsCry : ByteArray := prog_12_method_56_code
def yX10_tellsCry : MethodName := ⟨RX10, "tellsCry", "(II)I"⟩
abbrev cX10_cryTold : ByteArray := prog_12_method_57_code
def yX10_cryTold : MethodName := ⟨RX10, "cryTold", "(II)I"⟩
abbrev cX10_due : ByteArray := prog_12_method_58_code
def yX10_due : MethodName := ⟨RX10, "due", "(I)I"⟩
abbrev cX10_dueAt : ByteArray := prog_12_method_59_code
def yX10_dueAt : MethodName := ⟨RX10, "dueAt", "(II)I"⟩
abbrev cX10_isPerson : ByteArray := prog_12_method_60_code
def yX10_isPerson : MethodName := ⟨RX10, "isPerson", "(I)Z"⟩
abbrev cX10_present : ByteArray := prog_12_method_61_code
def yX10_present : MethodName := ⟨RX10, "present", "(IIII)I"⟩
abbrev cX10_hears : ByteArray := prog_12_method_62_code
def yX10_hears : MethodName := ⟨RX10, "hears", "(II)Z"⟩
abbrev cX10_heardOf : ByteArray := prog_12_method_63_code
def yX10_heardOf : MethodName := ⟨RX10, "heardOf", "(II)I"⟩
abbrev cX10_heard : ByteArray := prog_12_method_64_code
def yX10_heard : MethodName := ⟨RX10, "heard", "(II)I"⟩
abbrev cX10_hearers : ByteArray := prog_12_method_65_code
def yX10_hearers : MethodName := ⟨RX10, "hearers", "(II)I"⟩
abbrev cX10_setLeast : ByteArray := prog_12_method_66_code
def yX10_setLeast : MethodName := ⟨RX10, "setLeast", "(I)V"⟩
abbrev cX10_round : ByteArray := prog_12_method_67_code
def yX10_round : MethodName := ⟨RX10, "round", "(II)I"⟩
abbrev cX10_roundAt : ByteArray := prog_12_method_68_code
def yX10_roundAt : MethodName := ⟨RX10, "roundAt", "(I)I"⟩
abbrev cX10_joined : ByteArray := prog_12_method_69_code
def yX10_joined : MethodName := ⟨RX10, "joined", "(III)I"⟩
abbrev cX10_counts : ByteArray := prog_12_method_70_code
def yX10_counts : MethodName := ⟨RX10, "counts", "(I)I"⟩
abbrev cX10_count : ByteArray := prog_12_method_71_code
def yX10_count : MethodName := ⟨RX10, "count", "(I)I"⟩
abbrev cX10_finding : ByteArray := prog_12_method_72_code
def yX10_finding : MethodName := ⟨RX10, "finding", "()I"⟩
abbrev cX10_findings : ByteArray := prog_12_method_73_code
def yX10_findings : MethodName := ⟨RX10, "findings", "(I)I"⟩
abbrev cX10_digest : ByteArray := prog_12_method_74_code
def yX10_digest : MethodName := ⟨RX10, "digest", "()J"⟩
def RJx145de : String := "java/io/Serializable"
def TJx145de : u_T := fun k => match k with
  | _ => ("", "", "", false)
def tyJx145de : Nat → FieldType := fun k => match k with
  | _ => .int
theorem nmJx145de : ∀ a, a < 0 → ∀ b, b < 0 → a ≠ b → (TJx145de a).2.1 ≠ (TJx145de b).2.1 := by decide +kernel
theorem tyJx145de_ok : ∀ k, k < 0 → parseFieldDescriptor (TJx145de k).2.2.1 = some (tyJx145de k) := by decide +kernel
def RJx8e188 : String := "java/lang/Cloneable"
def TJx8e188 : u_T := fun k => match k with
  | _ => ("", "", "", false)
def tyJx8e188 : Nat → FieldType := fun k => match k with
  | _ => .int
theorem nmJx8e188 : ∀ a, a < 0 → ∀ b, b < 0 → a ≠ b → (TJx8e188 a).2.1 ≠ (TJx8e188 b).2.1 := by decide +kernel
theorem tyJx8e188_ok : ∀ k, k < 0 → parseFieldDescriptor (TJx8e188 k).2.2.1 = some (tyJx8e188 k) := by decide +kernel
def RJ6 : String := "java/lang/Integer"
def TJ6 : u_T := fun k => match k with
  | _ => ("", "", "", false)
def tyJ6 : Nat → FieldType := fun k => match k with
  | _ => .int
theorem nmJ6 : ∀ a, a < 0 → ∀ b, b < 0 → a ≠ b → (TJ6 a).2.1 ≠ (TJ6 b).2.1 := by decide +kernel
theorem tyJ6_ok : ∀ k, k < 0 → parseFieldDescriptor (TJ6 k).2.2.1 = some (tyJ6 k) := by decide +kernel
abbrev cJ6_bitCount_0f7a4 : ByteArray := prog_15_method_49_code
def yJ6_bitCount_0f7a4 : MethodName := ⟨RJ6, "bitCount", "(I)I"⟩
def RJxab1ab : String := "java/lang/Iterable"
def TJxab1ab : u_T := fun k => match k with
  | _ => ("", "", "", false)
def tyJxab1ab : Nat → FieldType := fun k => match k with
  | _ => .int
theorem nmJxab1ab : ∀ a, a < 0 → ∀ b, b < 0 → a ≠ b → (TJxab1ab a).2.1 ≠ (TJxab1ab b).2.1 := by decide +kernel
theorem tyJxab1ab_ok : ∀ k, k < 0 → parseFieldDescriptor (TJxab1ab k).2.2.1 = some (tyJxab1ab k) := by decide +kernel
def RJ9 : String := "java/lang/Math"
def TJ9 : u_T := fun k => match k with
  | _ => ("", "", "", false)
def tyJ9 : Nat → FieldType := fun k => match k with
  | _ => .int
theorem nmJ9 : ∀ a, a < 0 → ∀ b, b < 0 → a ≠ b → (TJ9 a).2.1 ≠ (TJ9 b).2.1 := by decide +kernel
theorem tyJ9_ok : ∀ k, k < 0 → parseFieldDescriptor (TJ9 k).2.2.1 = some (tyJ9 k) := by decide +kernel
abbrev cJ9_abs_0f7a4 : ByteArray := prog_17_method_59_code
def yJ9_abs_0f7a4 : MethodName := ⟨RJ9, "abs", "(I)I"⟩
abbrev cJ9_max_7cf53 : ByteArray := prog_17_method_65_code
def yJ9_max_7cf53 : MethodName := ⟨RJ9, "max", "(II)I"⟩
abbrev cJ9_min_7cf53 : ByteArray := prog_17_method_69_code
def yJ9_min_7cf53 : MethodName := ⟨RJ9, "min", "(II)I"⟩
def RJ10 : String := "java/lang/System"
def TJ10 : u_T := fun k => match k with
  | _ => ("", "", "", false)
def tyJ10 : Nat → FieldType := fun k => match k with
  | _ => .int
theorem nmJ10 : ∀ a, a < 0 → ∀ b, b < 0 → a ≠ b → (TJ10 a).2.1 ≠ (TJ10 b).2.1 := by decide +kernel
theorem tyJ10_ok : ∀ k, k < 0 → parseFieldDescriptor (TJ10 k).2.2.1 = some (tyJ10 k) := by decide +kernel
def RJxa1e45 : String := "java/util/AbstractCollection"
def TJxa1e45 : u_T := fun k => match k with
  | _ => ("", "", "", false)
def tyJxa1e45 : Nat → FieldType := fun k => match k with
  | _ => .int
theorem nmJxa1e45 : ∀ a, a < 0 → ∀ b, b < 0 → a ≠ b → (TJxa1e45 a).2.1 ≠ (TJxa1e45 b).2.1 := by decide +kernel
theorem tyJxa1e45_ok : ∀ k, k < 0 → parseFieldDescriptor (TJxa1e45 k).2.2.1 = some (tyJxa1e45 k) := by decide +kernel
abbrev cJxa1e45_init_da8c8 : ByteArray := prog_19_method_1_code
def yJxa1e45_init_da8c8 : MethodName := ⟨RJxa1e45, "<init>", "()V"⟩
def RJxc12de : String := "java/util/AbstractList"
def TJxc12de : u_T := fun k => match k with
  | _ => ("", "", "", false)
def tyJxc12de : Nat → FieldType := fun k => match k with
  | _ => .int
theorem nmJxc12de : ∀ a, a < 0 → ∀ b, b < 0 → a ≠ b → (TJxc12de a).2.1 ≠ (TJxc12de b).2.1 := by decide +kernel
theorem tyJxc12de_ok : ∀ k, k < 0 → parseFieldDescriptor (TJxc12de k).2.2.1 = some (tyJxc12de k) := by decide +kernel
abbrev cJxc12de_init_da8c8 : ByteArray := prog_20_method_1_code
def yJxc12de_init_da8c8 : MethodName := ⟨RJxc12de, "<init>", "()V"⟩
def RJx4a65c : String := "java/util/ArrayList"
def TJx4a65c : u_T := fun k => match k with
  | 0 => ("java/util/AbstractList", "modCount", "I", false)
  | 1 => ("java/util/ArrayList", "elementData", "[Ljava/lang/Object;", false)
  | _ => ("java/util/ArrayList", "size", "I", false)
def tyJx4a65c : Nat → FieldType := fun k => match k with
  | 0 => .int
  | 1 => .array (.object "java/lang/Object")
  | _ => .int
theorem nmJx4a65c : ∀ a, a < 3 → ∀ b, b < 3 → a ≠ b → (TJx4a65c a).2.1 ≠ (TJx4a65c b).2.1 := by decide +kernel
theorem tyJx4a65c_ok : ∀ k, k < 3 → parseFieldDescriptor (TJx4a65c k).2.2.1 = some (tyJx4a65c k) := by decide +kernel
abbrev cJx4a65c_init_da8c8 : ByteArray := prog_21_method_2_code
def yJx4a65c_init_da8c8 : MethodName := ⟨RJx4a65c, "<init>", "()V"⟩
abbrev cJx4a65c_grow_92f84 : ByteArray := prog_21_method_6_code
def yJx4a65c_grow_92f84 : MethodName := ⟨RJx4a65c, "grow", "(I)[Ljava/lang/Object;"⟩
abbrev cJx4a65c_grow_d5877 : ByteArray := prog_21_method_7_code
def yJx4a65c_grow_d5877 : MethodName := ⟨RJx4a65c, "grow", "()[Ljava/lang/Object;"⟩
abbrev cJx4a65c_size_8abf5 : ByteArray := prog_21_method_8_code
def yJx4a65c_size_8abf5 : MethodName := ⟨RJx4a65c, "size", "()I"⟩
abbrev cJx4a65c_isEmpty_aae02 : ByteArray := prog_21_method_9_code
def yJx4a65c_isEmpty_aae02 : MethodName := ⟨RJx4a65c, "isEmpty", "()Z"⟩
abbrev cJx4a65c_elementData_915e3 : ByteArray := prog_21_method_18_code
def yJx4a65c_elementData_915e3 : MethodName := ⟨RJx4a65c, "elementData", "(I)Ljava/lang/Object;"⟩
abbrev cJx4a65c_get_915e3 : ByteArray := prog_21_method_20_code
def yJx4a65c_get_915e3 : MethodName := ⟨RJx4a65c, "get", "(I)Ljava/lang/Object;"⟩
abbrev cJx4a65c_add_72be8 : ByteArray := prog_21_method_24_code
def yJx4a65c_add_72be8 : MethodName := ⟨RJx4a65c, "add", "(Ljava/lang/Object;[Ljava/lang/Object;I)V"⟩
abbrev cJx4a65c_add_9ea2d : ByteArray := prog_21_method_25_code
def yJx4a65c_add_9ea2d : MethodName := ⟨RJx4a65c, "add", "(Ljava/lang/Object;)Z"⟩
def RJ7 : String := "java/util/Arrays"
def TJ7 : u_T := fun k => match k with
  | _ => ("", "", "", false)
def tyJ7 : Nat → FieldType := fun k => match k with
  | _ => .int
theorem nmJ7 : ∀ a, a < 0 → ∀ b, b < 0 → a ≠ b → (TJ7 a).2.1 ≠ (TJ7 b).2.1 := by decide +kernel
theorem tyJ7_ok : ∀ k, k < 0 → parseFieldDescriptor (TJ7 k).2.2.1 = some (tyJ7 k) := by decide +kernel
abbrev cJ7_fill_53178 : ByteArray := prog_22_method_103_code
def yJ7_fill_53178 : MethodName := ⟨RJ7, "fill", "([II)V"⟩
abbrev cJ7_fill_031fb : ByteArray := prog_22_method_109_code
def yJ7_fill_031fb : MethodName := ⟨RJ7, "fill", "([BB)V"⟩
abbrev cJ7_copyOf_1904c : ByteArray := prog_22_method_119_code
def yJ7_copyOf_1904c : MethodName := ⟨RJ7, "copyOf", "([Ljava/lang/Object;I)[Ljava/lang/Object;"⟩
abbrev cJ7_copyOf_6403c : ByteArray := prog_22_method_120_code
def yJ7_copyOf_6403c : MethodName := ⟨RJ7, "copyOf", "([Ljava/lang/Object;ILjava/lang/Class;)[Ljava/lang/Object;"⟩
def RJx5ef63 : String := "java/util/Collection"
def TJx5ef63 : u_T := fun k => match k with
  | _ => ("", "", "", false)
def tyJx5ef63 : Nat → FieldType := fun k => match k with
  | _ => .int
theorem nmJx5ef63 : ∀ a, a < 0 → ∀ b, b < 0 → a ≠ b → (TJx5ef63 a).2.1 ≠ (TJx5ef63 b).2.1 := by decide +kernel
theorem tyJx5ef63_ok : ∀ k, k < 0 → parseFieldDescriptor (TJx5ef63 k).2.2.1 = some (tyJx5ef63 k) := by decide +kernel
def RJxbd725 : String := "java/util/List"
def TJxbd725 : u_T := fun k => match k with
  | _ => ("", "", "", false)
def tyJxbd725 : Nat → FieldType := fun k => match k with
  | _ => .int
theorem nmJxbd725 : ∀ a, a < 0 → ∀ b, b < 0 → a ≠ b → (TJxbd725 a).2.1 ≠ (TJxbd725 b).2.1 := by decide +kernel
theorem tyJxbd725_ok : ∀ k, k < 0 → parseFieldDescriptor (TJxbd725 k).2.2.1 = some (tyJxbd725 k) := by decide +kernel
def RJ15 : String := "java/util/Objects"
def TJ15 : u_T := fun k => match k with
  | _ => ("", "", "", false)
def tyJ15 : Nat → FieldType := fun k => match k with
  | _ => .int
theorem nmJ15 : ∀ a, a < 0 → ∀ b, b < 0 → a ≠ b → (TJ15 a).2.1 ≠ (TJ15 b).2.1 := by decide +kernel
theorem tyJ15_ok : ∀ k, k < 0 → parseFieldDescriptor (TJ15 k).2.2.1 = some (tyJ15 k) := by decide +kernel
abbrev cJ15_checkIndex_7cf53 : ByteArray := prog_25_method_17_code
def yJ15_checkIndex_7cf53 : MethodName := ⟨RJ15, "checkIndex", "(II)I"⟩
def RJxf0a74 : String := "java/util/RandomAccess"
def TJxf0a74 : u_T := fun k => match k with
  | _ => ("", "", "", false)
def tyJxf0a74 : Nat → FieldType := fun k => match k with
  | _ => .int
theorem nmJxf0a74 : ∀ a, a < 0 → ∀ b, b < 0 → a ≠ b → (TJxf0a74 a).2.1 ≠ (TJxf0a74 b).2.1 := by decide +kernel
theorem tyJxf0a74_ok : ∀ k, k < 0 → parseFieldDescriptor (TJxf0a74 k).2.2.1 = some (tyJxf0a74 k) := by decide +kernel
def RJxa66e6 : String := "java/util/SequencedCollection"
def TJxa66e6 : u_T := fun k => match k with
  | _ => ("", "", "", false)
def tyJxa66e6 : Nat → FieldType := fun k => match k with
  | _ => .int
theorem nmJxa66e6 : ∀ a, a < 0 → ∀ b, b < 0 → a ≠ b → (TJxa66e6 a).2.1 ≠ (TJxa66e6 b).2.1 := by decide +kernel
theorem tyJxa66e6_ok : ∀ k, k < 0 → parseFieldDescriptor (TJxa66e6 k).2.2.1 = some (tyJxa66e6 k) := by decide +kernel
def RJ8 : String := "jdk/internal/util/ArraysSupport"
def TJ8 : u_T := fun k => match k with
  | _ => ("", "", "", false)
def tyJ8 : Nat → FieldType := fun k => match k with
  | _ => .int
theorem nmJ8 : ∀ a, a < 0 → ∀ b, b < 0 → a ≠ b → (TJ8 a).2.1 ≠ (TJ8 b).2.1 := by decide +kernel
theorem tyJ8_ok : ∀ k, k < 0 → parseFieldDescriptor (TJ8 k).2.2.1 = some (tyJ8 k) := by decide +kernel
abbrev cJ8_newLength_cabcc : ByteArray := prog_28_method_27_code
def yJ8_newLength_cabcc : MethodName := ⟨RJ8, "newLength", "(III)I"⟩
abbrev cJ8_hugeLength_7cf53 : ByteArray := prog_28_method_28_code
def yJ8_hugeLength_7cf53 : MethodName := ⟨RJ8, "hugeLength", "(II)I"⟩
def RJ3 : String := "jdk/internal/util/Preconditions"
def TJ3 : u_T := fun k => match k with
  | _ => ("", "", "", false)
def tyJ3 : Nat → FieldType := fun k => match k with
  | _ => .int
theorem nmJ3 : ∀ a, a < 0 → ∀ b, b < 0 → a ≠ b → (TJ3 a).2.1 ≠ (TJ3 b).2.1 := by decide +kernel
theorem tyJ3_ok : ∀ k, k < 0 → parseFieldDescriptor (TJ3 k).2.2.1 = some (tyJ3 k) := by decide +kernel
abbrev cJ3_checkIndex_8e157 : ByteArray := prog_29_method_11_code
def yJ3_checkIndex_8e157 : MethodName := ⟨RJ3, "checkIndex", "(IILjava/util/function/BiFunction;)I"⟩
def RL : String := "CriersOfficeLaw"
abbrev cL_law : ByteArray := code
def yL_law : MethodName := ⟨RL, "law", "([I)Z"⟩
abbrev vwCl : List vw_C := [(RJx4a65c, TJx4a65c, 3), (RX0, TX0, 3), (RX1, TX1, 2), (RX2, TX2, 6), (RX3, TX3, 4), (RX4, TX4, 9), (RX5, TX5, 4), (RX6, TX6, 2), (RX7, TX7, 3), (RX8, TX8, 5), (RX9, TX9, 14), (RX10, TX10, 47)]
