def RX0 : String := "BambooBlind$Blind"
def TX0 : u_T := fun k => match k with
  | 0 => ("BambooBlind$Blind", "rows", "I", false)
  | 1 => ("BambooBlind$Blind", "coatLimit", "I", false)
  | 2 => ("BambooBlind$Blind", "slats", "I", false)
  | 3 => ("BambooBlind$Blind", "columns", "I", false)
  | 4 => ("BambooBlind$Blind", "leftBoxes", "I", false)
  | 5 => ("BambooBlind$Blind", "rightBoxes", "I", false)
  | 6 => ("BambooBlind$Blind", "tiedSlats", "I", false)
  | 7 => ("BambooBlind$Blind", "width", "[I", true)
  | 8 => ("BambooBlind$Blind", "first", "[I", true)
  | 9 => ("BambooBlind$Blind", "turn", "[I", true)
  | 10 => ("BambooBlind$Blind", "leftCoats", "[I", true)
  | 11 => ("BambooBlind$Blind", "rightCoats", "[I", true)
  | 12 => ("BambooBlind$Blind", "leftPicture", "[I", true)
  | 13 => ("BambooBlind$Blind", "rightPicture", "[I", true)
  | 14 => ("BambooBlind$Blind", "leftFace", "[I", true)
  | _ => ("BambooBlind$Blind", "rightFace", "[I", true)
def tyX0 : Nat → FieldType := fun k => match k with
  | 0 => .int
  | 1 => .int
  | 2 => .int
  | 3 => .int
  | 4 => .int
  | 5 => .int
  | 6 => .int
  | 7 => .array .int
  | 8 => .array .int
  | 9 => .array .int
  | 10 => .array .int
  | 11 => .array .int
  | 12 => .array .int
  | 13 => .array .int
  | 14 => .array .int
  | _ => .array .int
theorem nmX0 : ∀ a, a < 16 → ∀ b, b < 16 → a ≠ b → (TX0 a).2.1 ≠ (TX0 b).2.1 := by decide +kernel
theorem tyX0_ok : ∀ k, k < 16 → parseFieldDescriptor (TX0 k).2.2.1 = some (tyX0 k) := by decide +kernel
abbrev cX0_init : ByteArray := prog_2_method_1_code
def yX0_init : MethodName := ⟨RX0, "<init>", "()V"⟩
abbrev cX0_clear : ByteArray := prog_2_method_2_code
def yX0_clear : MethodName := ⟨RX0, "clear", "()V"⟩
abbrev cX0_paintAll : ByteArray := prog_2_method_3_code
def yX0_paintAll : MethodName := ⟨RX0, "paintAll", "()V"⟩
abbrev cX0_copyFrom : ByteArray := prog_2_method_4_code
def yX0_copyFrom : MethodName := ⟨RX0, "copyFrom", "(LBambooBlind$Blind;)V"⟩
abbrev cX0_addSlat : ByteArray := prog_2_method_5_code
def yX0_addSlat : MethodName := ⟨RX0, "addSlat", "(II)V"⟩
abbrev cX0_countBox : ByteArray := prog_2_method_6_code
def yX0_countBox : MethodName := ⟨RX0, "countBox", "(Z)V"⟩
abbrev cX0_pictureOf : ByteArray := prog_2_method_7_code
def yX0_pictureOf : MethodName := ⟨RX0, "pictureOf", "(Z)[I"⟩
abbrev cX0_faceOf : ByteArray := prog_2_method_8_code
def yX0_faceOf : MethodName := ⟨RX0, "faceOf", "(Z)[I"⟩
abbrev cX0_coatsOf : ByteArray := prog_2_method_9_code
def yX0_coatsOf : MethodName := ⟨RX0, "coatsOf", "(Z)[I"⟩
abbrev cX0_hasSlat : ByteArray := prog_2_method_10_code
def yX0_hasSlat : MethodName := ⟨RX0, "hasSlat", "(I)Z"⟩
abbrev cX0_hasColumn : ByteArray := prog_2_method_11_code
def yX0_hasColumn : MethodName := ⟨RX0, "hasColumn", "(I)Z"⟩
abbrev cX0_hasRow : ByteArray := prog_2_method_12_code
def yX0_hasRow : MethodName := ⟨RX0, "hasRow", "(I)Z"⟩
abbrev cX0_hasCell : ByteArray := prog_2_method_13_code
def yX0_hasCell : MethodName := ⟨RX0, "hasCell", "(II)Z"⟩
abbrev cX0_hasFaceCell : ByteArray := prog_2_method_14_code
def yX0_hasFaceCell : MethodName := ⟨RX0, "hasFaceCell", "(III)Z"⟩
abbrev cX0_cells : ByteArray := prog_2_method_15_code
def yX0_cells : MethodName := ⟨RX0, "cells", "()I"⟩
abbrev cX0_slatWith : ByteArray := prog_2_method_16_code
def yX0_slatWith : MethodName := ⟨RX0, "slatWith", "(I)I"⟩
abbrev cX0_isTied : ByteArray := prog_2_method_17_code
def yX0_isTied : MethodName := ⟨RX0, "isTied", "(I)Z"⟩
abbrev cX0_setTied : ByteArray := prog_2_method_18_code
def yX0_setTied : MethodName := ⟨RX0, "setTied", "(IZ)V"⟩
abbrev cX0_seamBehind : ByteArray := prog_2_method_19_code
def yX0_seamBehind : MethodName := ⟨RX0, "seamBehind", "(I)I"⟩
abbrev cX0_coveringSeams : ByteArray := prog_2_method_20_code
def yX0_coveringSeams : MethodName := ⟨RX0, "coveringSeams", "()I"⟩
abbrev cX0_openingSeams : ByteArray := prog_2_method_21_code
def yX0_openingSeams : MethodName := ⟨RX0, "openingSeams", "()I"⟩
abbrev cX0_unlikePicture : ByteArray := prog_2_method_22_code
def yX0_unlikePicture : MethodName := ⟨RX0, "unlikePicture", "(IZ)I"⟩
abbrev cX0_bearsCoat : ByteArray := prog_2_method_23_code
def yX0_bearsCoat : MethodName := ⟨RX0, "bearsCoat", "(IZ)Z"⟩
abbrev cX0_turnAfterPull : ByteArray := prog_2_method_24_code
def yX0_turnAfterPull : MethodName := ⟨RX0, "turnAfterPull", "(II)I"⟩
abbrev cX0_turnsTo : ByteArray := prog_2_method_25_code
def yX0_turnsTo : MethodName := ⟨RX0, "turnsTo", "(I)I"⟩
abbrev cX0_pullCord : ByteArray := prog_2_method_26_code
def yX0_pullCord : MethodName := ⟨RX0, "pullCord", "(I)I"⟩
abbrev cX0_paintFace : ByteArray := prog_2_method_27_code
def yX0_paintFace : MethodName := ⟨RX0, "paintFace", "(IZ)I"⟩
abbrev cX0_dabCell : ByteArray := prog_2_method_28_code
def yX0_dabCell : MethodName := ⟨RX0, "dabCell", "(IZIII)I"⟩
abbrev cX0_swapFaces : ByteArray := prog_2_method_29_code
def yX0_swapFaces : MethodName := ⟨RX0, "swapFaces", "(I)I"⟩
abbrev cX0_addSpot : ByteArray := prog_2_method_30_code
def yX0_addSpot : MethodName := ⟨RX0, "addSpot", "(ZIII)I"⟩
def RX1 : String := "BambooBlind$History"
def TX1 : u_T := fun k => match k with
  | 0 => ("BambooBlind$History", "kept", "[LBambooBlind$Blind;", true)
  | 1 => ("BambooBlind$History", "count", "I", false)
  | _ => ("BambooBlind$History", "next", "I", false)
def tyX1 : Nat → FieldType := fun k => match k with
  | 0 => .array (.object "BambooBlind$Blind")
  | 1 => .int
  | _ => .int
theorem nmX1 : ∀ a, a < 3 → ∀ b, b < 3 → a ≠ b → (TX1 a).2.1 ≠ (TX1 b).2.1 := by decide +kernel
theorem tyX1_ok : ∀ k, k < 3 → parseFieldDescriptor (TX1 k).2.2.1 = some (tyX1 k) := by decide +kernel
abbrev cX1_init : ByteArray := prog_3_method_1_code
def yX1_init : MethodName := ⟨RX1, "<init>", "()V"⟩
abbrev cX1_keep : ByteArray := prog_3_method_2_code
def yX1_keep : MethodName := ⟨RX1, "keep", "(LBambooBlind$Blind;)V"⟩
abbrev cX1_takeBack : ByteArray := prog_3_method_3_code
def yX1_takeBack : MethodName := ⟨RX1, "takeBack", "(LBambooBlind$Blind;)Z"⟩
abbrev cX1_forget : ByteArray := prog_3_method_4_code
def yX1_forget : MethodName := ⟨RX1, "forget", "()V"⟩
def RX2 : String := "BambooBlind$Script"
def TX2 : u_T := fun k => match k with
  | 0 => ("BambooBlind$Script", "source", "LBambooBlind$Source;", true)
  | 1 => ("BambooBlind$Script", "size", "I", false)
  | 2 => ("BambooBlind$Script", "verb", "[I", true)
  | 3 => ("BambooBlind$Script", "isRight", "[Z", true)
  | 4 => ("BambooBlind$Script", "number", "[[I", true)
  | 5 => ("BambooBlind$Script", "behind", "[I", true)
  | 6 => ("BambooBlind$Script", "unclosed", "[I", true)
  | _ => ("BambooBlind$Script", "depth", "I", false)
def tyX2 : Nat → FieldType := fun k => match k with
  | 0 => .object "BambooBlind$Source"
  | 1 => .int
  | 2 => .array .int
  | 3 => .array .boolean
  | 4 => .array (.array .int)
  | 5 => .array .int
  | 6 => .array .int
  | _ => .int
theorem nmX2 : ∀ a, a < 8 → ∀ b, b < 8 → a ≠ b → (TX2 a).2.1 ≠ (TX2 b).2.1 := by decide +kernel
theorem tyX2_ok : ∀ k, k < 8 → parseFieldDescriptor (TX2 k).2.2.1 = some (tyX2 k) := by decide +kernel
abbrev cX2_init : ByteArray := prog_4_method_1_code
def yX2_init : MethodName := ⟨RX2, "<init>", "(LBambooBlind$Source;)V"⟩
def RX3 : String := "BambooBlind$Source"
def TX3 : u_T := fun k => match k with
  | 0 => ("BambooBlind$Source", "bytes", "[B", true)
  | 1 => ("BambooBlind$Source", "length", "I", false)
  | 2 => ("BambooBlind$Source", "kind", "I", false)
  | 3 => ("BambooBlind$Source", "start", "I", false)
  | 4 => ("BambooBlind$Source", "end", "I", false)
  | 5 => ("BambooBlind$Source", "number", "I", false)
  | 6 => ("BambooBlind$Source", "errorCode", "I", false)
  | _ => ("BambooBlind$Source", "errorPosition", "I", false)
def tyX3 : Nat → FieldType := fun k => match k with
  | 0 => .array .byte
  | 1 => .int
  | 2 => .int
  | 3 => .int
  | 4 => .int
  | 5 => .int
  | 6 => .int
  | _ => .int
theorem nmX3 : ∀ a, a < 8 → ∀ b, b < 8 → a ≠ b → (TX3 a).2.1 ≠ (TX3 b).2.1 := by decide +kernel
theorem tyX3_ok : ∀ k, k < 8 → parseFieldDescriptor (TX3 k).2.2.1 = some (tyX3 k) := by decide +kernel
abbrev cX3_init : ByteArray := prog_5_method_1_code
def yX3_init : MethodName := ⟨RX3, "<init>", "()V"⟩
abbrev cX3_append : ByteArray := prog_5_method_2_code
def yX3_append : MethodName := ⟨RX3, "append", "(I)V"⟩
abbrev cX3_begin : ByteArray := prog_5_method_3_code
def yX3_begin : MethodName := ⟨RX3, "begin", "()V"⟩
abbrev cX3_advance : ByteArray := prog_5_method_4_code
def yX3_advance : MethodName := ⟨RX3, "advance", "()V"⟩
abbrev cX3_isSign : ByteArray := prog_5_method_5_code
def yX3_isSign : MethodName := ⟨RX3, "isSign", "(I)Z"⟩
abbrev cX3_endOfRun : ByteArray := prog_5_method_6_code
def yX3_endOfRun : MethodName := ⟨RX3, "endOfRun", "(CC)I"⟩
abbrev cX3_numberHere : ByteArray := prog_5_method_7_code
def yX3_numberHere : MethodName := ⟨RX3, "numberHere", "()I"⟩
abbrev cX3_isAtEnd : ByteArray := prog_5_method_8_code
def yX3_isAtEnd : MethodName := ⟨RX3, "isAtEnd", "()Z"⟩
abbrev cX3_isAtSign : ByteArray := prog_5_method_9_code
def yX3_isAtSign : MethodName := ⟨RX3, "isAtSign", "(C)Z"⟩
abbrev cX3_isAtWord : ByteArray := prog_5_method_10_code
def yX3_isAtWord : MethodName := ⟨RX3, "isAtWord", "(Ljava/lang/String;)Z"⟩
abbrev cX3_fail : ByteArray := prog_5_method_11_code
def yX3_fail : MethodName := ⟨RX3, "fail", "(I)Z"⟩
abbrev cX3_takeSign : ByteArray := prog_5_method_12_code
def yX3_takeSign : MethodName := ⟨RX3, "takeSign", "(C)Z"⟩
abbrev cX3_takeNumber : ByteArray := prog_5_method_13_code
def yX3_takeNumber : MethodName := ⟨RX3, "takeNumber", "(II)I"⟩
abbrev cX3_takeSide : ByteArray := prog_5_method_14_code
def yX3_takeSide : MethodName := ⟨RX3, "takeSide", "()I"⟩
def RX4 : String := "BambooBlind$TextReader"
def TX4 : u_T := fun k => match k with
  | 0 => ("BambooBlind$TextReader", "source", "LBambooBlind$Source;", true)
  | 1 => ("BambooBlind$TextReader", "draft", "LBambooBlind$Blind;", true)
  | 2 => ("BambooBlind$TextReader", "isHighTold", "Z", false)
  | 3 => ("BambooBlind$TextReader", "isCoatsTold", "Z", false)
  | 4 => ("BambooBlind$TextReader", "boxes", "I", false)
  | 5 => ("BambooBlind$TextReader", "isRight", "[Z", true)
  | 6 => ("BambooBlind$TextReader", "column", "[I", true)
  | 7 => ("BambooBlind$TextReader", "row", "[I", true)
  | 8 => ("BambooBlind$TextReader", "columns", "[I", true)
  | 9 => ("BambooBlind$TextReader", "rows", "[I", true)
  | _ => ("BambooBlind$TextReader", "colour", "[I", true)
def tyX4 : Nat → FieldType := fun k => match k with
  | 0 => .object "BambooBlind$Source"
  | 1 => .object "BambooBlind$Blind"
  | 2 => .boolean
  | 3 => .boolean
  | 4 => .int
  | 5 => .array .boolean
  | 6 => .array .int
  | 7 => .array .int
  | 8 => .array .int
  | 9 => .array .int
  | _ => .array .int
theorem nmX4 : ∀ a, a < 11 → ∀ b, b < 11 → a ≠ b → (TX4 a).2.1 ≠ (TX4 b).2.1 := by decide +kernel
theorem tyX4_ok : ∀ k, k < 11 → parseFieldDescriptor (TX4 k).2.2.1 = some (tyX4 k) := by decide +kernel
abbrev cX4_init : ByteArray := prog_6_method_1_code
def yX4_init : MethodName := ⟨RX4, "<init>", "(LBambooBlind$Source;)V"⟩
abbrev cX4_read : ByteArray := prog_6_method_2_code
def yX4_read : MethodName := ⟨RX4, "read", "()Z"⟩
abbrev cX4_readStatement : ByteArray := prog_6_method_3_code
def yX4_readStatement : MethodName := ⟨RX4, "readStatement", "()Z"⟩
abbrev cX4_readHigh : ByteArray := prog_6_method_4_code
def yX4_readHigh : MethodName := ⟨RX4, "readHigh", "()Z"⟩
abbrev cX4_readCoats : ByteArray := prog_6_method_5_code
def yX4_readCoats : MethodName := ⟨RX4, "readCoats", "()Z"⟩
abbrev cX4_readSlat : ByteArray := prog_6_method_6_code
def yX4_readSlat : MethodName := ⟨RX4, "readSlat", "()Z"⟩
abbrev cX4_readBox : ByteArray := prog_6_method_7_code
def yX4_readBox : MethodName := ⟨RX4, "readBox", "()Z"⟩
abbrev cX4_readInto : ByteArray := prog_6_method_8_code
def yX4_readInto : MethodName := ⟨RX4, "readInto", "([III)Z"⟩
abbrev cX4_drawBoxes : ByteArray := prog_6_method_9_code
def yX4_drawBoxes : MethodName := ⟨RX4, "drawBoxes", "()V"⟩
abbrev cX4_drawnOver : ByteArray := prog_6_method_10_code
def yX4_drawnOver : MethodName := ⟨RX4, "drawnOver", "(II)I"⟩
def RX5 : String := "BambooBlind$View"
def TX5 : u_T := fun k => match k with
  | 0 => ("BambooBlind$View", "blind", "LBambooBlind$Blind;", true)
  | 1 => ("BambooBlind$View", "state", "[I", true)
  | 2 => ("BambooBlind$View", "colours", "[I", true)
  | _ => ("BambooBlind$View", "isRightFace", "[Z", true)
def tyX5 : Nat → FieldType := fun k => match k with
  | 0 => .object "BambooBlind$Blind"
  | 1 => .array .int
  | 2 => .array .int
  | _ => .array .boolean
theorem nmX5 : ∀ a, a < 4 → ∀ b, b < 4 → a ≠ b → (TX5 a).2.1 ≠ (TX5 b).2.1 := by decide +kernel
theorem tyX5_ok : ∀ k, k < 4 → parseFieldDescriptor (TX5 k).2.2.1 = some (tyX5 k) := by decide +kernel
abbrev cX5_init : ByteArray := prog_7_method_1_code
def yX5_init : MethodName := ⟨RX5, "<init>", "(LBambooBlind$Blind;)V"⟩
abbrev cX5_look : ByteArray := prog_7_method_2_code
def yX5_look : MethodName := ⟨RX5, "look", "([II)V"⟩
abbrev cX5_lookAtSlat : ByteArray := prog_7_method_3_code
def yX5_lookAtSlat : MethodName := ⟨RX5, "lookAtSlat", "(IIII)V"⟩
abbrev cX5_isShown : ByteArray := prog_7_method_4_code
def yX5_isShown : MethodName := ⟨RX5, "isShown", "(I)Z"⟩
abbrev cX5_seenAt : ByteArray := prog_7_method_5_code
def yX5_seenAt : MethodName := ⟨RX5, "seenAt", "(II)I"⟩
abbrev cX5_whyNotRight : ByteArray := prog_7_method_6_code
def yX5_whyNotRight : MethodName := ⟨RX5, "whyNotRight", "(ZII)I"⟩
abbrev cX5_isSeenRight : ByteArray := prog_7_method_7_code
def yX5_isSeenRight : MethodName := ⟨RX5, "isSeenRight", "(ZII)Z"⟩
abbrev cX5_columnsWith : ByteArray := prog_7_method_8_code
def yX5_columnsWith : MethodName := ⟨RX5, "columnsWith", "(I)I"⟩
abbrev cX5_rightCells : ByteArray := prog_7_method_9_code
def yX5_rightCells : MethodName := ⟨RX5, "rightCells", "(ZII)I"⟩
abbrev cX5_isWhole : ByteArray := prog_7_method_11_code
def yX5_isWhole : MethodName := ⟨RX5, "isWhole", "(Z)Z"⟩
abbrev cX5_firstNotRight : ByteArray := prog_7_method_12_code
def yX5_firstNotRight : MethodName := ⟨RX5, "firstNotRight", "(Z)I"⟩
abbrev cX5_mostShownTogether : ByteArray := prog_7_method_13_code
def yX5_mostShownTogether : MethodName := ⟨RX5, "mostShownTogether", "()I"⟩
abbrev cX5_ghostCells : ByteArray := prog_7_method_14_code
def yX5_ghostCells : MethodName := ⟨RX5, "ghostCells", "(Z)I"⟩
def RX6 : String := "BambooBlind"
def TX6 : u_T := fun k => match k with
  | 0 => ("BambooBlind", "source", "LBambooBlind$Source;", true)
  | 1 => ("BambooBlind", "texts", "LBambooBlind$TextReader;", true)
  | 2 => ("BambooBlind", "script", "LBambooBlind$Script;", true)
  | 3 => ("BambooBlind", "now", "LBambooBlind$Blind;", true)
  | 4 => ("BambooBlind", "saved", "LBambooBlind$Blind;", true)
  | 5 => ("BambooBlind", "history", "LBambooBlind$History;", true)
  | 6 => ("BambooBlind", "view", "LBambooBlind$View;", true)
  | 7 => ("BambooBlind", "trial", "[I", true)
  | 8 => ("BambooBlind", "reportBytes", "[B", true)
  | 9 => ("BambooBlind", "reportLength", "I", false)
  | 10 => ("BambooBlind", "commandsDone", "I", false)
  | _ => ("BambooBlind", "hasSaved", "Z", false)
def tyX6 : Nat → FieldType := fun k => match k with
  | 0 => .object "BambooBlind$Source"
  | 1 => .object "BambooBlind$TextReader"
  | 2 => .object "BambooBlind$Script"
  | 3 => .object "BambooBlind$Blind"
  | 4 => .object "BambooBlind$Blind"
  | 5 => .object "BambooBlind$History"
  | 6 => .object "BambooBlind$View"
  | 7 => .array .int
  | 8 => .array .byte
  | 9 => .int
  | 10 => .int
  | _ => .boolean
theorem nmX6 : ∀ a, a < 12 → ∀ b, b < 12 → a ≠ b → (TX6 a).2.1 ≠ (TX6 b).2.1 := by decide +kernel
theorem tyX6_ok : ∀ k, k < 12 → parseFieldDescriptor (TX6 k).2.2.1 = some (tyX6 k) := by decide +kernel
abbrev cX6_init : ByteArray := prog_1_method_1_code
def yX6_init : MethodName := ⟨RX6, "<init>", "()V"⟩
abbrev cX6_feed : ByteArray := prog_1_method_2_code
def yX6_feed : MethodName := ⟨RX6, "feed", "(IIIII)I"⟩
abbrev cX6_truncate : ByteArray := prog_1_method_3_code
def yX6_truncate : MethodName := ⟨RX6, "truncate", "(I)I"⟩
abbrev cX6_readText : ByteArray := prog_1_method_4_code
def yX6_readText : MethodName := ⟨RX6, "readText", "()I"⟩
abbrev cX6_setting : ByteArray := prog_1_method_8_code
def yX6_setting : MethodName := ⟨RX6, "setting", "(I)I"⟩
abbrev cX6_slat : ByteArray := prog_1_method_9_code
def yX6_slat : MethodName := ⟨RX6, "slat", "(II)I"⟩
abbrev cX6_slatAt : ByteArray := prog_1_method_10_code
def yX6_slatAt : MethodName := ⟨RX6, "slatAt", "(I)I"⟩
abbrev cX6_picture : ByteArray := prog_1_method_11_code
def yX6_picture : MethodName := ⟨RX6, "picture", "(ZII)I"⟩
abbrev cX6_face : ByteArray := prog_1_method_12_code
def yX6_face : MethodName := ⟨RX6, "face", "(IZII)I"⟩
abbrev cX6_seen : ByteArray := prog_1_method_14_code
def yX6_seen : MethodName := ⟨RX6, "seen", "(III)I"⟩
abbrev cX6_why : ByteArray := prog_1_method_15_code
def yX6_why : MethodName := ⟨RX6, "why", "(IZII)I"⟩
abbrev cX6_right : ByteArray := prog_1_method_16_code
def yX6_right : MethodName := ⟨RX6, "right", "(IZ)I"⟩
abbrev cX6_open : ByteArray := prog_1_method_17_code
def yX6_open : MethodName := ⟨RX6, "open", "(I)I"⟩
abbrev cX6_covered : ByteArray := prog_1_method_18_code
def yX6_covered : MethodName := ⟨RX6, "covered", "(I)I"⟩
abbrev cX6_whole : ByteArray := prog_1_method_19_code
def yX6_whole : MethodName := ⟨RX6, "whole", "(I)I"⟩
abbrev cX6_firstWrong : ByteArray := prog_1_method_20_code
def yX6_firstWrong : MethodName := ⟨RX6, "firstWrong", "(IZ)I"⟩
abbrev cX6_shownFrom : ByteArray := prog_1_method_21_code
def yX6_shownFrom : MethodName := ⟨RX6, "shownFrom", "(I)I"⟩
abbrev cX6_bestAngle : ByteArray := prog_1_method_22_code
def yX6_bestAngle : MethodName := ⟨RX6, "bestAngle", "(Z)I"⟩
abbrev cX6_seam : ByteArray := prog_1_method_23_code
def yX6_seam : MethodName := ⟨RX6, "seam", "(I)I"⟩
abbrev cX6_run : ByteArray := prog_1_method_24_code
def yX6_run : MethodName := ⟨RX6, "run", "(I)I"⟩
abbrev cX6_ghosts : ByteArray := prog_1_method_26_code
def yX6_ghosts : MethodName := ⟨RX6, "ghosts", "(IZ)I"⟩
abbrev cX6_paintable : ByteArray := prog_1_method_27_code
def yX6_paintable : MethodName := ⟨RX6, "paintable", "(Z)I"⟩
abbrev cX6_light : ByteArray := prog_1_method_29_code
def yX6_light : MethodName := ⟨RX6, "light", "(I)F"⟩
abbrev cX6_lightest : ByteArray := prog_1_method_31_code
def yX6_lightest : MethodName := ⟨RX6, "lightest", "()I"⟩
abbrev cX6_bestTurn : ByteArray := prog_1_method_32_code
def yX6_bestTurn : MethodName := ⟨RX6, "bestTurn", "(IIZ)I"⟩
abbrev cX6_bestPull : ByteArray := prog_1_method_33_code
def yX6_bestPull : MethodName := ⟨RX6, "bestPull", "(IZ)I"⟩
abbrev cX6_turnsNeeded : ByteArray := prog_1_method_35_code
def yX6_turnsNeeded : MethodName := ⟨RX6, "turnsNeeded", "(IZ)I"⟩
abbrev cX6_pull : ByteArray := prog_1_method_37_code
def yX6_pull : MethodName := ⟨RX6, "pull", "(I)I"⟩
abbrev cX6_turn : ByteArray := prog_1_method_38_code
def yX6_turn : MethodName := ⟨RX6, "turn", "(II)I"⟩
abbrev cX6_tie : ByteArray := prog_1_method_39_code
def yX6_tie : MethodName := ⟨RX6, "tie", "(IZ)Z"⟩
abbrev cX6_paint : ByteArray := prog_1_method_40_code
def yX6_paint : MethodName := ⟨RX6, "paint", "(IZ)I"⟩
abbrev cX6_dab : ByteArray := prog_1_method_41_code
def yX6_dab : MethodName := ⟨RX6, "dab", "(IZIII)I"⟩
abbrev cX6_swap : ByteArray := prog_1_method_42_code
def yX6_swap : MethodName := ⟨RX6, "swap", "(I)I"⟩
abbrev cX6_spot : ByteArray := prog_1_method_43_code
def yX6_spot : MethodName := ⟨RX6, "spot", "(ZIII)I"⟩
abbrev cX6_undo : ByteArray := prog_1_method_46_code
def yX6_undo : MethodName := ⟨RX6, "undo", "()I"⟩
abbrev cX6_refuse : ByteArray := prog_1_method_49_code
def yX6_refuse : MethodName := ⟨RX6, "refuse", "(I)V"⟩
abbrev cX6_angleProblem : ByteArray := prog_1_method_50_code
def yX6_angleProblem : MethodName := ⟨RX6, "angleProblem", "(I)I"⟩
abbrev cX6_pullProblem : ByteArray := prog_1_method_51_code
def yX6_pullProblem : MethodName := ⟨RX6, "pullProblem", "(I)I"⟩
abbrev cX6_turnProblem : ByteArray := prog_1_method_52_code
def yX6_turnProblem : MethodName := ⟨RX6, "turnProblem", "(II)I"⟩
abbrev cX6_tieProblem : ByteArray := prog_1_method_53_code
def yX6_tieProblem : MethodName := ⟨RX6, "tieProblem", "(IZ)I"⟩
abbrev cX6_paintProblem : ByteArray := prog_1_method_54_code
def yX6_paintProblem : MethodName := ⟨RX6, "paintProblem", "(IZ)I"⟩
abbrev cX6_dabProblem : ByteArray := prog_1_method_55_code
def yX6_dabProblem : MethodName := ⟨RX6, "dabProblem", "(IIII)I"⟩
abbrev cX6_swapProblem : ByteArray := prog_1_method_56_code
def yX6_swapProblem : MethodName := ⟨RX6, "swapProblem", "(I)I"⟩
abbrev cX6_spotProblem : ByteArray := prog_1_method_57_code
def yX6_spotProblem : MethodName := ⟨RX6, "spotProblem", "(III)I"⟩
abbrev cX6_colourProblem : ByteArray := prog_1_method_58_code
def yX6_colourProblem : MethodName := ⟨RX6, "colourProblem", "(I)I"⟩
abbrev cX6_toSide : ByteArray := prog_1_method_63_code
def yX6_toSide : MethodName := ⟨RX6, "toSide", "(IZ)I"⟩
abbrev cX6_rightFrom : ByteArray := prog_1_method_64_code
def yX6_rightFrom : MethodName := ⟨RX6, "rightFrom", "(IZ)I"⟩
abbrev cX6_rightOfTrial : ByteArray := prog_1_method_65_code
def yX6_rightOfTrial : MethodName := ⟨RX6, "rightOfTrial", "(IZ)I"⟩
abbrev cX6_rightAfterPull : ByteArray := prog_1_method_66_code
def yX6_rightAfterPull : MethodName := ⟨RX6, "rightAfterPull", "(IIZ)I"⟩
abbrev cX6_openFrom : ByteArray := prog_1_method_67_code
def yX6_openFrom : MethodName := ⟨RX6, "openFrom", "(I)I"⟩
abbrev cX6_colourIn : ByteArray := prog_1_method_70_code
def yX6_colourIn : MethodName := ⟨RX6, "colourIn", "(II)I"⟩
abbrev cX6_withColour : ByteArray := prog_1_method_71_code
def yX6_withColour : MethodName := ⟨RX6, "withColour", "(III)I"⟩
abbrev cX6_unlikeBits : ByteArray := prog_1_method_72_code
def yX6_unlikeBits : MethodName := ⟨RX6, "unlikeBits", "(II)I"⟩
abbrev cX6_unlikeRows : ByteArray := prog_1_method_73_code
def yX6_unlikeRows : MethodName := ⟨RX6, "unlikeRows", "(II)I"⟩
def RX7 : String := "BambooBlindLaw$World"
def TX7 : u_T := fun k => match k with
  | 0 => ("BambooBlindLaw$World", "high", "I", false)
  | 1 => ("BambooBlindLaw$World", "coats", "I", false)
  | 2 => ("BambooBlindLaw$World", "slats", "Ljava/util/List;", false)
  | 3 => ("BambooBlindLaw$World", "boxes", "Ljava/util/List;", false)
  | 4 => ("BambooBlindLaw$World", "faces", "[[[I", false)
  | _ => ("BambooBlindLaw$World", "text", "Ljava/lang/String;", false)
def tyX7 : Nat → FieldType := fun k => match k with
  | 0 => .int
  | 1 => .int
  | 2 => .object "java/util/List"
  | 3 => .object "java/util/List"
  | 4 => .array (.array (.array .int))
  | _ => .object "java/lang/String"
theorem nmX7 : ∀ a, a < 6 → ∀ b, b < 6 → a ≠ b → (TX7 a).2.1 ≠ (TX7 b).2.1 := by decide +kernel
theorem tyX7_ok : ∀ k, k < 6 → parseFieldDescriptor (TX7 k).2.2.1 = some (tyX7 k) := by decide +kernel
abbrev cX7_init : ByteArray := prog_9_method_1_code
def yX7_init : MethodName := ⟨RX7, "<init>", "()V"⟩
abbrev cX7_grown : ByteArray := prog_9_method_2_code
def yX7_grown : MethodName := ⟨RX7, "grown", "([I)LBambooBlindLaw$World;"⟩
abbrev cX7_first : ByteArray := prog_9_method_4_code
def yX7_first : MethodName := ⟨RX7, "first", "(I)I"⟩
abbrev cX7_columns : ByteArray := prog_9_method_5_code
def yX7_columns : MethodName := ⟨RX7, "columns", "()I"⟩
abbrev cX7_picture : ByteArray := prog_9_method_7_code
def yX7_picture : MethodName := ⟨RX7, "picture", "(III)I"⟩
abbrev cX7_seam : ByteArray := prog_9_method_9_code
def yX7_seam : MethodName := ⟨RX7, "seam", "(I)I"⟩
abbrev cX7_unlike : ByteArray := prog_9_method_15_code
def yX7_unlike : MethodName := ⟨RX7, "unlike", "(II)I"⟩
abbrev cX7_pull : ByteArray := prog_9_method_16_code
def yX7_pull : MethodName := ⟨RX7, "pull", "(I)I"⟩
def RX8 : String := "BambooBlindModel"
def TX8 : u_T := fun k => match k with
  | _ => ("", "", "", false)
def tyX8 : Nat → FieldType := fun k => match k with
  | _ => .int
theorem nmX8 : ∀ a, a < 0 → ∀ b, b < 0 → a ≠ b → (TX8 a).2.1 ≠ (TX8 b).2.1 := by decide +kernel
theorem tyX8_ok : ∀ k, k < 0 → parseFieldDescriptor (TX8 k).2.2.1 = some (tyX8 k) := by decide +kernel
def RJx145de : String := "java/io/Serializable"
def TJx145de : u_T := fun k => match k with
  | _ => ("", "", "", false)
def tyJx145de : Nat → FieldType := fun k => match k with
  | _ => .int
theorem nmJx145de : ∀ a, a < 0 → ∀ b, b < 0 → a ≠ b → (TJx145de a).2.1 ≠ (TJx145de b).2.1 := by decide +kernel
theorem tyJx145de_ok : ∀ k, k < 0 → parseFieldDescriptor (TJx145de k).2.2.1 = some (tyJx145de k) := by decide +kernel
def RJ5 : String := "java/lang/AbstractStringBuilder"
def TJ5 : u_T := fun k => match k with
  | _ => ("", "", "", false)
def tyJ5 : Nat → FieldType := fun k => match k with
  | _ => .int
theorem nmJ5 : ∀ a, a < 0 → ∀ b, b < 0 → a ≠ b → (TJ5 a).2.1 ≠ (TJ5 b).2.1 := by decide +kernel
theorem tyJ5_ok : ∀ k, k < 0 → parseFieldDescriptor (TJ5 k).2.2.1 = some (tyJ5 k) := by decide +kernel
abbrev cJ5_init_d00df : ByteArray := prog_12_method_2_code
def yJ5_init_d00df : MethodName := ⟨RJ5, "<init>", "(I)V"⟩
abbrev cJ5_length_8abf5 : ByteArray := prog_12_method_6_code
def yJ5_length_8abf5 : MethodName := ⟨RJ5, "length", "()I"⟩
abbrev cJ5_ensureCapacityInternal_d00df : ByteArray := prog_12_method_9_code
def yJ5_ensureCapacityInternal_d00df : MethodName := ⟨RJ5, "ensureCapacityInternal", "(I)V"⟩
abbrev cJ5_newCapacity_0f7a4 : ByteArray := prog_12_method_10_code
def yJ5_newCapacity_0f7a4 : MethodName := ⟨RJ5, "newCapacity", "(I)I"⟩
abbrev cJ5_inflate_da8c8 : ByteArray := prog_12_method_11_code
def yJ5_inflate_da8c8 : MethodName := ⟨RJ5, "inflate", "()V"⟩
abbrev cJ5_append_cf1ce : ByteArray := prog_12_method_22_code
def yJ5_append_cf1ce : MethodName := ⟨RJ5, "append", "(Ljava/lang/String;)Ljava/lang/AbstractStringBuilder;"⟩
abbrev cJ5_appendNull_278bc : ByteArray := prog_12_method_26_code
def yJ5_appendNull_278bc : MethodName := ⟨RJ5, "appendNull", "()Ljava/lang/AbstractStringBuilder;"⟩
abbrev cJ5_append_c97b9 : ByteArray := prog_12_method_32_code
def yJ5_append_c97b9 : MethodName := ⟨RJ5, "append", "(I)Ljava/lang/AbstractStringBuilder;"⟩
abbrev cJ5_getValue_6d5f1 : ByteArray := prog_12_method_64_code
def yJ5_getValue_6d5f1 : MethodName := ⟨RJ5, "getValue", "()[B"⟩
abbrev cJ5_isLatin1_aae02 : ByteArray := prog_12_method_68_code
def yJ5_isLatin1_aae02 : MethodName := ⟨RJ5, "isLatin1", "()Z"⟩
abbrev cJ5_inflateIfNeededFor_a7421 : ByteArray := prog_12_method_71_code
def yJ5_inflateIfNeededFor_a7421 : MethodName := ⟨RJ5, "inflateIfNeededFor", "(Ljava/lang/String;)V"⟩
abbrev cJ5_putStringAt_47b60 : ByteArray := prog_12_method_73_code
def yJ5_putStringAt_47b60 : MethodName := ⟨RJ5, "putStringAt", "(ILjava/lang/String;)V"⟩
def RJx2cfe8 : String := "java/lang/Appendable"
def TJx2cfe8 : u_T := fun k => match k with
  | _ => ("", "", "", false)
def tyJx2cfe8 : Nat → FieldType := fun k => match k with
  | _ => .int
theorem nmJx2cfe8 : ∀ a, a < 0 → ∀ b, b < 0 → a ≠ b → (TJx2cfe8 a).2.1 ≠ (TJx2cfe8 b).2.1 := by decide +kernel
theorem tyJx2cfe8_ok : ∀ k, k < 0 → parseFieldDescriptor (TJx2cfe8 k).2.2.1 = some (tyJx2cfe8 k) := by decide +kernel
def RJx9f9b0 : String := "java/lang/CharSequence"
def TJx9f9b0 : u_T := fun k => match k with
  | _ => ("", "", "", false)
def tyJx9f9b0 : Nat → FieldType := fun k => match k with
  | _ => .int
theorem nmJx9f9b0 : ∀ a, a < 0 → ∀ b, b < 0 → a ≠ b → (TJx9f9b0 a).2.1 ≠ (TJx9f9b0 b).2.1 := by decide +kernel
theorem tyJx9f9b0_ok : ∀ k, k < 0 → parseFieldDescriptor (TJx9f9b0 k).2.2.1 = some (tyJx9f9b0 k) := by decide +kernel
def RJx8e188 : String := "java/lang/Cloneable"
def TJx8e188 : u_T := fun k => match k with
  | _ => ("", "", "", false)
def tyJx8e188 : Nat → FieldType := fun k => match k with
  | _ => .int
theorem nmJx8e188 : ∀ a, a < 0 → ∀ b, b < 0 → a ≠ b → (TJx8e188 a).2.1 ≠ (TJx8e188 b).2.1 := by decide +kernel
theorem tyJx8e188_ok : ∀ k, k < 0 → parseFieldDescriptor (TJx8e188 k).2.2.1 = some (tyJx8e188 k) := by decide +kernel
def RJxb160c : String := "java/lang/Comparable"
def TJxb160c : u_T := fun k => match k with
  | _ => ("", "", "", false)
def tyJxb160c : Nat → FieldType := fun k => match k with
  | _ => .int
theorem nmJxb160c : ∀ a, a < 0 → ∀ b, b < 0 → a ≠ b → (TJxb160c a).2.1 ≠ (TJxb160c b).2.1 := by decide +kernel
theorem tyJxb160c_ok : ∀ k, k < 0 → parseFieldDescriptor (TJxb160c k).2.2.1 = some (tyJxb160c k) := by decide +kernel
def RJ6 : String := "java/lang/Integer"
def TJ6 : u_T := fun k => match k with
  | _ => ("", "", "", false)
def tyJ6 : Nat → FieldType := fun k => match k with
  | _ => .int
theorem nmJ6 : ∀ a, a < 0 → ∀ b, b < 0 → a ≠ b → (TJ6 a).2.1 ≠ (TJ6 b).2.1 := by decide +kernel
theorem tyJ6_ok : ∀ k, k < 0 → parseFieldDescriptor (TJ6 k).2.2.1 = some (tyJ6 k) := by decide +kernel
abbrev cJ6_getChars_ba4f3 : ByteArray := prog_21_method_12_code
def yJ6_getChars_ba4f3 : MethodName := ⟨RJ6, "getChars", "(II[B)I"⟩
abbrev cJ6_stringSize_0f7a4 : ByteArray := prog_21_method_13_code
def yJ6_stringSize_0f7a4 : MethodName := ⟨RJ6, "stringSize", "(I)I"⟩
abbrev cJ6_bitCount_0f7a4 : ByteArray := prog_21_method_49_code
def yJ6_bitCount_0f7a4 : MethodName := ⟨RJ6, "bitCount", "(I)I"⟩
def RJxab1ab : String := "java/lang/Iterable"
def TJxab1ab : u_T := fun k => match k with
  | _ => ("", "", "", false)
def tyJxab1ab : Nat → FieldType := fun k => match k with
  | _ => .int
theorem nmJxab1ab : ∀ a, a < 0 → ∀ b, b < 0 → a ≠ b → (TJxab1ab a).2.1 ≠ (TJxab1ab b).2.1 := by decide +kernel
theorem tyJxab1ab_ok : ∀ k, k < 0 → parseFieldDescriptor (TJxab1ab k).2.2.1 = some (tyJxab1ab k) := by decide +kernel
def RJ9 : String := "java/lang/Math"
def TJ9 : u_T := fun k => match k with
  | _ => ("", "", "", false)
def tyJ9 : Nat → FieldType := fun k => match k with
  | _ => .int
theorem nmJ9 : ∀ a, a < 0 → ∀ b, b < 0 → a ≠ b → (TJ9 a).2.1 ≠ (TJ9 b).2.1 := by decide +kernel
theorem tyJ9_ok : ∀ k, k < 0 → parseFieldDescriptor (TJ9 k).2.2.1 = some (tyJ9 k) := by decide +kernel
abbrev cJ9_abs_0f7a4 : ByteArray := prog_23_method_59_code
def yJ9_abs_0f7a4 : MethodName := ⟨RJ9, "abs", "(I)I"⟩
abbrev cJ9_max_7cf53 : ByteArray := prog_23_method_65_code
def yJ9_max_7cf53 : MethodName := ⟨RJ9, "max", "(II)I"⟩
abbrev cJ9_min_7cf53 : ByteArray := prog_23_method_69_code
def yJ9_min_7cf53 : MethodName := ⟨RJ9, "min", "(II)I"⟩
def RJxd2413 : String := "java/lang/Number"
def TJxd2413 : u_T := fun k => match k with
  | _ => ("", "", "", false)
def tyJxd2413 : Nat → FieldType := fun k => match k with
  | _ => .int
theorem nmJxd2413 : ∀ a, a < 0 → ∀ b, b < 0 → a ≠ b → (TJxd2413 a).2.1 ≠ (TJxd2413 b).2.1 := by decide +kernel
theorem tyJxd2413_ok : ∀ k, k < 0 → parseFieldDescriptor (TJxd2413 k).2.2.1 = some (tyJxd2413 k) := by decide +kernel
def RJ0 : String := "java/lang/String"
def TJ0 : u_T := fun k => match k with
  | 0 => ("java/lang/String", "value", "[B", true)
  | 1 => ("java/lang/String", "coder", "B", true)
  | 2 => ("java/lang/String", "hash", "I", false)
  | _ => ("java/lang/String", "hashIsZero", "Z", false)
def tyJ0 : Nat → FieldType := fun k => match k with
  | 0 => .array .byte
  | 1 => .byte
  | 2 => .int
  | _ => .boolean
theorem nmJ0 : ∀ a, a < 4 → ∀ b, b < 4 → a ≠ b → (TJ0 a).2.1 ≠ (TJ0 b).2.1 := by decide +kernel
theorem tyJ0_ok : ∀ k, k < 4 → parseFieldDescriptor (TJ0 k).2.2.1 = some (tyJ0 k) := by decide +kernel
abbrev cJ0_init_81219 : ByteArray := prog_26_method_53_code
def yJ0_init_81219 : MethodName := ⟨RJ0, "<init>", "(Ljava/lang/StringBuilder;)V"⟩
abbrev cJ0_length_8abf5 : ByteArray := prog_26_method_54_code
def yJ0_length_8abf5 : MethodName := ⟨RJ0, "length", "()I"⟩
abbrev cJ0_isEmpty_aae02 : ByteArray := prog_26_method_55_code
def yJ0_isEmpty_aae02 : MethodName := ⟨RJ0, "isEmpty", "()Z"⟩
abbrev cJ0_charAt_5068e : ByteArray := prog_26_method_56_code
def yJ0_charAt_5068e : MethodName := ⟨RJ0, "charAt", "(I)C"⟩
abbrev cJ0_getBytes_840e7 : ByteArray := prog_26_method_147_code
def yJ0_getBytes_840e7 : MethodName := ⟨RJ0, "getBytes", "([BIB)V"⟩
abbrev cJ0_init_db425 : ByteArray := prog_26_method_150_code
def yJ0_init_db425 : MethodName := ⟨RJ0, "<init>", "(Ljava/lang/AbstractStringBuilder;Ljava/lang/Void;)V"⟩
abbrev cJ0_coder_7d493 : ByteArray := prog_26_method_152_code
def yJ0_coder_7d493 : MethodName := ⟨RJ0, "coder", "()B"⟩
abbrev cJ0_isLatin1_aae02 : ByteArray := prog_26_method_154_code
def yJ0_isLatin1_aae02 : MethodName := ⟨RJ0, "isLatin1", "()Z"⟩
abbrev cJ0_checkIndex_df160 : ByteArray := prog_26_method_155_code
def yJ0_checkIndex_df160 : MethodName := ⟨RJ0, "checkIndex", "(II)V"⟩
abbrev cJ0_checkBoundsOffCount_cabcc : ByteArray := prog_26_method_157_code
def yJ0_checkBoundsOffCount_cabcc : MethodName := ⟨RJ0, "checkBoundsOffCount", "(III)I"⟩
abbrev cJ0_checkBoundsBeginEnd_23922 : ByteArray := prog_26_method_158_code
def yJ0_checkBoundsBeginEnd_23922 : MethodName := ⟨RJ0, "checkBoundsBeginEnd", "(III)V"⟩
def RJ4 : String := "java/lang/StringBuilder"
def TJ4 : u_T := fun k => match k with
  | 0 => ("java/lang/AbstractStringBuilder", "value", "[B", false)
  | 1 => ("java/lang/AbstractStringBuilder", "coder", "B", false)
  | 2 => ("java/lang/AbstractStringBuilder", "maybeLatin1", "Z", false)
  | _ => ("java/lang/AbstractStringBuilder", "count", "I", false)
def tyJ4 : Nat → FieldType := fun k => match k with
  | 0 => .array .byte
  | 1 => .byte
  | 2 => .boolean
  | _ => .int
theorem nmJ4 : ∀ a, a < 4 → ∀ b, b < 4 → a ≠ b → (TJ4 a).2.1 ≠ (TJ4 b).2.1 := by decide +kernel
theorem tyJ4_ok : ∀ k, k < 4 → parseFieldDescriptor (TJ4 k).2.2.1 = some (tyJ4 k) := by decide +kernel
abbrev cJ4_init_da8c8 : ByteArray := prog_27_method_1_code
def yJ4_init_da8c8 : MethodName := ⟨RJ4, "<init>", "()V"⟩
abbrev cJ4_append_15ec4 : ByteArray := prog_27_method_7_code
def yJ4_append_15ec4 : MethodName := ⟨RJ4, "append", "(Ljava/lang/String;)Ljava/lang/StringBuilder;"⟩
abbrev cJ4_append_bf812 : ByteArray := prog_27_method_15_code
def yJ4_append_bf812 : MethodName := ⟨RJ4, "append", "(I)Ljava/lang/StringBuilder;"⟩
abbrev cJ4_toString_0e30d : ByteArray := prog_27_method_42_code
def yJ4_toString_0e30d : MethodName := ⟨RJ4, "toString", "()Ljava/lang/String;"⟩
abbrev cJ4_length_8abf5 : ByteArray := prog_27_method_93_code
def yJ4_length_8abf5 : MethodName := ⟨RJ4, "length", "()I"⟩
def RJ1 : String := "java/lang/StringLatin1"
def TJ1 : u_T := fun k => match k with
  | _ => ("", "", "", false)
def tyJ1 : Nat → FieldType := fun k => match k with
  | _ => .int
theorem nmJ1 : ∀ a, a < 0 → ∀ b, b < 0 → a ≠ b → (TJ1 a).2.1 ≠ (TJ1 b).2.1 := by decide +kernel
theorem tyJ1_ok : ∀ k, k < 0 → parseFieldDescriptor (TJ1 k).2.2.1 = some (tyJ1 k) := by decide +kernel
abbrev cJ1_charAt_3b067 : ByteArray := prog_28_method_2_code
def yJ1_charAt_3b067 : MethodName := ⟨RJ1, "charAt", "([BI)C"⟩
abbrev cJ1_inflate_0e8fd : ByteArray := prog_28_method_50_code
def yJ1_inflate_0e8fd : MethodName := ⟨RJ1, "inflate", "([BI[BII)V"⟩
def RJ2 : String := "java/lang/StringUTF16"
def TJ2 : u_T := fun k => match k with
  | _ => ("", "", "", false)
def tyJ2 : Nat → FieldType := fun k => match k with
  | _ => .int
theorem nmJ2 : ∀ a, a < 0 → ∀ b, b < 0 → a ≠ b → (TJ2 a).2.1 ≠ (TJ2 b).2.1 := by decide +kernel
theorem tyJ2_ok : ∀ k, k < 0 → parseFieldDescriptor (TJ2 k).2.2.1 = some (tyJ2 k) := by decide +kernel
abbrev cJ2_newBytesFor_77867 : ByteArray := prog_29_method_2_code
def yJ2_newBytesFor_77867 : MethodName := ⟨RJ2, "newBytesFor", "(I)[B"⟩
abbrev cJ2_newBytesLength_0f7a4 : ByteArray := prog_29_method_3_code
def yJ2_newBytesLength_0f7a4 : MethodName := ⟨RJ2, "newBytesLength", "(I)I"⟩
abbrev cJ2_putChar_b72d1 : ByteArray := prog_29_method_4_code
def yJ2_putChar_b72d1 : MethodName := ⟨RJ2, "putChar", "([BII)V"⟩
abbrev cJ2_getChar_3b067 : ByteArray := prog_29_method_5_code
def yJ2_getChar_3b067 : MethodName := ⟨RJ2, "getChar", "([BI)C"⟩
abbrev cJ2_length_9d52b : ByteArray := prog_29_method_6_code
def yJ2_length_9d52b : MethodName := ⟨RJ2, "length", "([B)I"⟩
abbrev cJ2_coderFromArrayLen_85cad : ByteArray := prog_29_method_15_code
def yJ2_coderFromArrayLen_85cad : MethodName := ⟨RJ2, "coderFromArrayLen", "([BI)B"⟩
abbrev cJ2_compress_39247 : ByteArray := prog_29_method_17_code
def yJ2_compress_39247 : MethodName := ⟨RJ2, "compress", "([BII)[B"⟩
abbrev cJ2_compress_5af95 : ByteArray := prog_29_method_22_code
def yJ2_compress_5af95 : MethodName := ⟨RJ2, "compress", "([BI[BII)I"⟩
abbrev cJ2_getChars_46870 : ByteArray := prog_29_method_77_code
def yJ2_getChars_46870 : MethodName := ⟨RJ2, "getChars", "(III[B)I"⟩
abbrev cJ2_putCharsAt_cd4e5 : ByteArray := prog_29_method_81_code
def yJ2_putCharsAt_cd4e5 : MethodName := ⟨RJ2, "putCharsAt", "([BICCCC)I"⟩
abbrev cJ2_charAt_3b067 : ByteArray := prog_29_method_83_code
def yJ2_charAt_3b067 : MethodName := ⟨RJ2, "charAt", "([BI)C"⟩
abbrev cJ2_inflate_0e8fd : ByteArray := prog_29_method_86_code
def yJ2_inflate_0e8fd : MethodName := ⟨RJ2, "inflate", "([BI[BII)V"⟩
abbrev cJ2_getChars_ba4f3 : ByteArray := prog_29_method_89_code
def yJ2_getChars_ba4f3 : MethodName := ⟨RJ2, "getChars", "(II[B)I"⟩
abbrev cJ2_checkIndex_2214a : ByteArray := prog_29_method_91_code
def yJ2_checkIndex_2214a : MethodName := ⟨RJ2, "checkIndex", "(I[B)V"⟩
abbrev cJ2_checkBoundsBeginEnd_d044e : ByteArray := prog_29_method_93_code
def yJ2_checkBoundsBeginEnd_d044e : MethodName := ⟨RJ2, "checkBoundsBeginEnd", "(II[B)V"⟩
abbrev cJ2_checkBoundsOffCount_d044e : ByteArray := prog_29_method_94_code
def yJ2_checkBoundsOffCount_d044e : MethodName := ⟨RJ2, "checkBoundsOffCount", "(II[B)V"⟩
def RJ10 : String := "java/lang/System"
def TJ10 : u_T := fun k => match k with
  | _ => ("", "", "", false)
def tyJ10 : Nat → FieldType := fun k => match k with
  | _ => .int
theorem nmJ10 : ∀ a, a < 0 → ∀ b, b < 0 → a ≠ b → (TJ10 a).2.1 ≠ (TJ10 b).2.1 := by decide +kernel
theorem tyJ10_ok : ∀ k, k < 0 → parseFieldDescriptor (TJ10 k).2.2.1 = some (tyJ10 k) := by decide +kernel
def RJxfd54e : String := "java/lang/constant/Constable"
def TJxfd54e : u_T := fun k => match k with
  | _ => ("", "", "", false)
def tyJxfd54e : Nat → FieldType := fun k => match k with
  | _ => .int
theorem nmJxfd54e : ∀ a, a < 0 → ∀ b, b < 0 → a ≠ b → (TJxfd54e a).2.1 ≠ (TJxfd54e b).2.1 := by decide +kernel
theorem tyJxfd54e_ok : ∀ k, k < 0 → parseFieldDescriptor (TJxfd54e k).2.2.1 = some (tyJxfd54e k) := by decide +kernel
def RJx3cf43 : String := "java/lang/constant/ConstantDesc"
def TJx3cf43 : u_T := fun k => match k with
  | _ => ("", "", "", false)
def tyJx3cf43 : Nat → FieldType := fun k => match k with
  | _ => .int
theorem nmJx3cf43 : ∀ a, a < 0 → ∀ b, b < 0 → a ≠ b → (TJx3cf43 a).2.1 ≠ (TJx3cf43 b).2.1 := by decide +kernel
theorem tyJx3cf43_ok : ∀ k, k < 0 → parseFieldDescriptor (TJx3cf43 k).2.2.1 = some (tyJx3cf43 k) := by decide +kernel
def RJxa1e45 : String := "java/util/AbstractCollection"
def TJxa1e45 : u_T := fun k => match k with
  | _ => ("", "", "", false)
def tyJxa1e45 : Nat → FieldType := fun k => match k with
  | _ => .int
theorem nmJxa1e45 : ∀ a, a < 0 → ∀ b, b < 0 → a ≠ b → (TJxa1e45 a).2.1 ≠ (TJxa1e45 b).2.1 := by decide +kernel
theorem tyJxa1e45_ok : ∀ k, k < 0 → parseFieldDescriptor (TJxa1e45 k).2.2.1 = some (tyJxa1e45 k) := by decide +kernel
abbrev cJxa1e45_init_da8c8 : ByteArray := prog_34_method_1_code
def yJxa1e45_init_da8c8 : MethodName := ⟨RJxa1e45, "<init>", "()V"⟩
def RJxc12de : String := "java/util/AbstractList"
def TJxc12de : u_T := fun k => match k with
  | _ => ("", "", "", false)
def tyJxc12de : Nat → FieldType := fun k => match k with
  | _ => .int
theorem nmJxc12de : ∀ a, a < 0 → ∀ b, b < 0 → a ≠ b → (TJxc12de a).2.1 ≠ (TJxc12de b).2.1 := by decide +kernel
theorem tyJxc12de_ok : ∀ k, k < 0 → parseFieldDescriptor (TJxc12de k).2.2.1 = some (tyJxc12de k) := by decide +kernel
abbrev cJxc12de_init_da8c8 : ByteArray := prog_35_method_1_code
def yJxc12de_init_da8c8 : MethodName := ⟨RJxc12de, "<init>", "()V"⟩
def RJx35411 : String := "java/util/ArrayList$Itr"
def TJx35411 : u_T := fun k => match k with
  | 0 => ("java/util/ArrayList$Itr", "cursor", "I", false)
  | 1 => ("java/util/ArrayList$Itr", "lastRet", "I", false)
  | 2 => ("java/util/ArrayList$Itr", "expectedModCount", "I", false)
  | _ => ("java/util/ArrayList$Itr", "this$0", "Ljava/util/ArrayList;", true)
def tyJx35411 : Nat → FieldType := fun k => match k with
  | 0 => .int
  | 1 => .int
  | 2 => .int
  | _ => .object "java/util/ArrayList"
theorem nmJx35411 : ∀ a, a < 4 → ∀ b, b < 4 → a ≠ b → (TJx35411 a).2.1 ≠ (TJx35411 b).2.1 := by decide +kernel
theorem tyJx35411_ok : ∀ k, k < 4 → parseFieldDescriptor (TJx35411 k).2.2.1 = some (tyJx35411 k) := by decide +kernel
abbrev cJx35411_init_45d68 : ByteArray := prog_37_method_1_code
def yJx35411_init_45d68 : MethodName := ⟨RJx35411, "<init>", "(Ljava/util/ArrayList;)V"⟩
abbrev cJx35411_hasNext_aae02 : ByteArray := prog_37_method_2_code
def yJx35411_hasNext_aae02 : MethodName := ⟨RJx35411, "hasNext", "()Z"⟩
abbrev cJx35411_next_0502b : ByteArray := prog_37_method_3_code
def yJx35411_next_0502b : MethodName := ⟨RJx35411, "next", "()Ljava/lang/Object;"⟩
abbrev cJx35411_checkForComodification_da8c8 : ByteArray := prog_37_method_6_code
def yJx35411_checkForComodification_da8c8 : MethodName := ⟨RJx35411, "checkForComodification", "()V"⟩
def RJx4a65c : String := "java/util/ArrayList"
def TJx4a65c : u_T := fun k => match k with
  | 0 => ("java/util/AbstractList", "modCount", "I", false)
  | 1 => ("java/util/ArrayList", "elementData", "[Ljava/lang/Object;", false)
  | _ => ("java/util/ArrayList", "size", "I", false)
def tyJx4a65c : Nat → FieldType := fun k => match k with
  | 0 => .int
  | 1 => .array (.object "java/lang/Object")
  | _ => .int
theorem nmJx4a65c : ∀ a, a < 3 → ∀ b, b < 3 → a ≠ b → (TJx4a65c a).2.1 ≠ (TJx4a65c b).2.1 := by decide +kernel
theorem tyJx4a65c_ok : ∀ k, k < 3 → parseFieldDescriptor (TJx4a65c k).2.2.1 = some (tyJx4a65c k) := by decide +kernel
abbrev cJx4a65c_init_da8c8 : ByteArray := prog_36_method_2_code
def yJx4a65c_init_da8c8 : MethodName := ⟨RJx4a65c, "<init>", "()V"⟩
abbrev cJx4a65c_grow_92f84 : ByteArray := prog_36_method_6_code
def yJx4a65c_grow_92f84 : MethodName := ⟨RJx4a65c, "grow", "(I)[Ljava/lang/Object;"⟩
abbrev cJx4a65c_grow_d5877 : ByteArray := prog_36_method_7_code
def yJx4a65c_grow_d5877 : MethodName := ⟨RJx4a65c, "grow", "()[Ljava/lang/Object;"⟩
abbrev cJx4a65c_size_8abf5 : ByteArray := prog_36_method_8_code
def yJx4a65c_size_8abf5 : MethodName := ⟨RJx4a65c, "size", "()I"⟩
abbrev cJx4a65c_isEmpty_aae02 : ByteArray := prog_36_method_9_code
def yJx4a65c_isEmpty_aae02 : MethodName := ⟨RJx4a65c, "isEmpty", "()Z"⟩
abbrev cJx4a65c_elementData_915e3 : ByteArray := prog_36_method_18_code
def yJx4a65c_elementData_915e3 : MethodName := ⟨RJx4a65c, "elementData", "(I)Ljava/lang/Object;"⟩
abbrev cJx4a65c_get_915e3 : ByteArray := prog_36_method_20_code
def yJx4a65c_get_915e3 : MethodName := ⟨RJx4a65c, "get", "(I)Ljava/lang/Object;"⟩
abbrev cJx4a65c_add_72be8 : ByteArray := prog_36_method_24_code
def yJx4a65c_add_72be8 : MethodName := ⟨RJx4a65c, "add", "(Ljava/lang/Object;[Ljava/lang/Object;I)V"⟩
abbrev cJx4a65c_add_9ea2d : ByteArray := prog_36_method_25_code
def yJx4a65c_add_9ea2d : MethodName := ⟨RJx4a65c, "add", "(Ljava/lang/Object;)Z"⟩
abbrev cJx4a65c_iterator_32c93 : ByteArray := prog_36_method_55_code
def yJx4a65c_iterator_32c93 : MethodName := ⟨RJx4a65c, "iterator", "()Ljava/util/Iterator;"⟩
def RJ7 : String := "java/util/Arrays"
def TJ7 : u_T := fun k => match k with
  | _ => ("", "", "", false)
def tyJ7 : Nat → FieldType := fun k => match k with
  | _ => .int
theorem nmJ7 : ∀ a, a < 0 → ∀ b, b < 0 → a ≠ b → (TJ7 a).2.1 ≠ (TJ7 b).2.1 := by decide +kernel
theorem tyJ7_ok : ∀ k, k < 0 → parseFieldDescriptor (TJ7 k).2.2.1 = some (tyJ7 k) := by decide +kernel
abbrev cJ7_fill_53178 : ByteArray := prog_38_method_103_code
def yJ7_fill_53178 : MethodName := ⟨RJ7, "fill", "([II)V"⟩
abbrev cJ7_copyOf_1904c : ByteArray := prog_38_method_119_code
def yJ7_copyOf_1904c : MethodName := ⟨RJ7, "copyOf", "([Ljava/lang/Object;I)[Ljava/lang/Object;"⟩
abbrev cJ7_copyOf_6403c : ByteArray := prog_38_method_120_code
def yJ7_copyOf_6403c : MethodName := ⟨RJ7, "copyOf", "([Ljava/lang/Object;ILjava/lang/Class;)[Ljava/lang/Object;"⟩
abbrev cJ7_copyOf_9075b : ByteArray := prog_38_method_121_code
def yJ7_copyOf_9075b : MethodName := ⟨RJ7, "copyOf", "([BI)[B"⟩
abbrev cJ7_checkLength_df160 : ByteArray := prog_38_method_131_code
def yJ7_checkLength_df160 : MethodName := ⟨RJ7, "checkLength", "(II)V"⟩
abbrev cJ7_copyOfRange_39247 : ByteArray := prog_38_method_132_code
def yJ7_copyOfRange_39247 : MethodName := ⟨RJ7, "copyOfRange", "([BII)[B"⟩
abbrev cJ7_copyOfRangeByte_39247 : ByteArray := prog_38_method_133_code
def yJ7_copyOfRangeByte_39247 : MethodName := ⟨RJ7, "copyOfRangeByte", "([BII)[B"⟩
def RJx5ef63 : String := "java/util/Collection"
def TJx5ef63 : u_T := fun k => match k with
  | _ => ("", "", "", false)
def tyJx5ef63 : Nat → FieldType := fun k => match k with
  | _ => .int
theorem nmJx5ef63 : ∀ a, a < 0 → ∀ b, b < 0 → a ≠ b → (TJx5ef63 a).2.1 ≠ (TJx5ef63 b).2.1 := by decide +kernel
theorem tyJx5ef63_ok : ∀ k, k < 0 → parseFieldDescriptor (TJx5ef63 k).2.2.1 = some (tyJx5ef63 k) := by decide +kernel
def RJx4d0d8 : String := "java/util/Iterator"
def TJx4d0d8 : u_T := fun k => match k with
  | _ => ("", "", "", false)
def tyJx4d0d8 : Nat → FieldType := fun k => match k with
  | _ => .int
theorem nmJx4d0d8 : ∀ a, a < 0 → ∀ b, b < 0 → a ≠ b → (TJx4d0d8 a).2.1 ≠ (TJx4d0d8 b).2.1 := by decide +kernel
theorem tyJx4d0d8_ok : ∀ k, k < 0 → parseFieldDescriptor (TJx4d0d8 k).2.2.1 = some (tyJx4d0d8 k) := by decide +kernel
def RJxbd725 : String := "java/util/List"
def TJxbd725 : u_T := fun k => match k with
  | _ => ("", "", "", false)
def tyJxbd725 : Nat → FieldType := fun k => match k with
  | _ => .int
theorem nmJxbd725 : ∀ a, a < 0 → ∀ b, b < 0 → a ≠ b → (TJxbd725 a).2.1 ≠ (TJxbd725 b).2.1 := by decide +kernel
theorem tyJxbd725_ok : ∀ k, k < 0 → parseFieldDescriptor (TJxbd725 k).2.2.1 = some (tyJxbd725 k) := by decide +kernel
def RJ15 : String := "java/util/Objects"
def TJ15 : u_T := fun k => match k with
  | _ => ("", "", "", false)
def tyJ15 : Nat → FieldType := fun k => match k with
  | _ => .int
theorem nmJ15 : ∀ a, a < 0 → ∀ b, b < 0 → a ≠ b → (TJ15 a).2.1 ≠ (TJ15 b).2.1 := by decide +kernel
theorem tyJ15_ok : ∀ k, k < 0 → parseFieldDescriptor (TJ15 k).2.2.1 = some (tyJ15 k) := by decide +kernel
abbrev cJ15_checkIndex_7cf53 : ByteArray := prog_42_method_17_code
def yJ15_checkIndex_7cf53 : MethodName := ⟨RJ15, "checkIndex", "(II)I"⟩
def RJxf0a74 : String := "java/util/RandomAccess"
def TJxf0a74 : u_T := fun k => match k with
  | _ => ("", "", "", false)
def tyJxf0a74 : Nat → FieldType := fun k => match k with
  | _ => .int
theorem nmJxf0a74 : ∀ a, a < 0 → ∀ b, b < 0 → a ≠ b → (TJxf0a74 a).2.1 ≠ (TJxf0a74 b).2.1 := by decide +kernel
theorem tyJxf0a74_ok : ∀ k, k < 0 → parseFieldDescriptor (TJxf0a74 k).2.2.1 = some (tyJxf0a74 k) := by decide +kernel
def RJxa66e6 : String := "java/util/SequencedCollection"
def TJxa66e6 : u_T := fun k => match k with
  | _ => ("", "", "", false)
def tyJxa66e6 : Nat → FieldType := fun k => match k with
  | _ => .int
theorem nmJxa66e6 : ∀ a, a < 0 → ∀ b, b < 0 → a ≠ b → (TJxa66e6 a).2.1 ≠ (TJxa66e6 b).2.1 := by decide +kernel
theorem tyJxa66e6_ok : ∀ k, k < 0 → parseFieldDescriptor (TJxa66e6 k).2.2.1 = some (tyJxa66e6 k) := by decide +kernel
def RJ8 : String := "jdk/internal/util/ArraysSupport"
def TJ8 : u_T := fun k => match k with
  | _ => ("", "", "", false)
def tyJ8 : Nat → FieldType := fun k => match k with
  | _ => .int
theorem nmJ8 : ∀ a, a < 0 → ∀ b, b < 0 → a ≠ b → (TJ8 a).2.1 ≠ (TJ8 b).2.1 := by decide +kernel
theorem tyJ8_ok : ∀ k, k < 0 → parseFieldDescriptor (TJ8 k).2.2.1 = some (tyJ8 k) := by decide +kernel
abbrev cJ8_newLength_cabcc : ByteArray := prog_45_method_27_code
def yJ8_newLength_cabcc : MethodName := ⟨RJ8, "newLength", "(III)I"⟩
abbrev cJ8_hugeLength_7cf53 : ByteArray := prog_45_method_28_code
def yJ8_hugeLength_7cf53 : MethodName := ⟨RJ8, "hugeLength", "(II)I"⟩
def RJ3 : String := "jdk/internal/util/Preconditions"
def TJ3 : u_T := fun k => match k with
  | _ => ("", "", "", false)
def tyJ3 : Nat → FieldType := fun k => match k with
  | _ => .int
theorem nmJ3 : ∀ a, a < 0 → ∀ b, b < 0 → a ≠ b → (TJ3 a).2.1 ≠ (TJ3 b).2.1 := by decide +kernel
theorem tyJ3_ok : ∀ k, k < 0 → parseFieldDescriptor (TJ3 k).2.2.1 = some (tyJ3 k) := by decide +kernel
abbrev cJ3_checkIndex_8e157 : ByteArray := prog_46_method_11_code
def yJ3_checkIndex_8e157 : MethodName := ⟨RJ3, "checkIndex", "(IILjava/util/function/BiFunction;)I"⟩
abbrev cJ3_checkFromToIndex_8c36e : ByteArray := prog_46_method_12_code
def yJ3_checkFromToIndex_8c36e : MethodName := ⟨RJ3, "checkFromToIndex", "(IIILjava/util/function/BiFunction;)I"⟩
abbrev cJ3_checkFromIndexSize_8c36e : ByteArray := prog_46_method_13_code
def yJ3_checkFromIndexSize_8c36e : MethodName := ⟨RJ3, "checkFromIndexSize", "(IIILjava/util/function/BiFunction;)I"⟩
def RL : String := "BambooBlindLaw"
abbrev cL_cell : ByteArray := method_2_code
def yL_cell : MethodName := ⟨RL, "cell", "([II)I"⟩
abbrev cL_pick : ByteArray := method_3_code
def yL_pick : MethodName := ⟨RL, "pick", "([III)I"⟩
abbrev cL_feeds : ByteArray := method_4_code
def yL_feeds : MethodName := ⟨RL, "feeds", "(LBambooBlind;Ljava/lang/String;)Z"⟩
abbrev cL_told : ByteArray := method_5_code
def yL_told : MethodName := ⟨RL, "told", "(I)Ljava/lang/String;"⟩
abbrev cL_alike : ByteArray := method_6_code
def yL_alike : MethodName := ⟨RL, "alike", "(LBambooBlind;LBambooBlindLaw$World;)Z"⟩
abbrev cL_acts : ByteArray := method_7_code
def yL_acts : MethodName := ⟨RL, "acts", "(LBambooBlind;LBambooBlindLaw$World;[II)Z"⟩
abbrev cL_holds : ByteArray := method_8_code
def yL_holds : MethodName := ⟨RL, "holds", "(LBambooBlind;IZ)Z"⟩
abbrev cL_comes : ByteArray := method_9_code
def yL_comes : MethodName := ⟨RL, "comes", "(LBambooBlind;LBambooBlindLaw$World;IZ)Z"⟩
abbrev cL_law : ByteArray := code
def yL_law : MethodName := ⟨RL, "law", "([I)Z"⟩
abbrev vwCl : List vw_C := [(RJ0, TJ0, 4), (RJ4, TJ4, 4), (RJx35411, TJx35411, 4), (RJx4a65c, TJx4a65c, 3), (RX0, TX0, 16), (RX1, TX1, 3), (RX2, TX2, 8), (RX3, TX3, 8), (RX4, TX4, 11), (RX5, TX5, 4), (RX6, TX6, 12), (RX7, TX7, 6)]
