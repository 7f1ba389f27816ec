-- names: classes, fields, methods (by program out of the claim's own files)
def RX0 : String := "LimeDeaths$Boughs"
def TX0 : u_T := fun k => match k with
  | _ => ("", "", "", false)
def tyX0 : Nat → FieldType := fun k => match k with
  | _ => .int
abbrev wsX00 : List Cond := u_ws RX0 TX0 0
theorem nmX0 : ∀ a, a < 0 → ∀ b, b < 0 → a ≠ b → (TX0 a).2.1 ≠ (TX0 b).2.1 := by decide +kernel
theorem tyX0_ok : ∀ k, k < 0 → parseFieldDescriptor (TX0 k).2.2.1 = some (tyX0 k) := by decide +kernel
def RX1 : String := "LimeDeaths$Course"
def TX1 : u_T := fun k => match k with
  | 0 => ("LimeDeaths$Course", "deeds", "I", false)
  | 1 => ("LimeDeaths$Course", "boughs", "[I", true)
  | 2 => ("LimeDeaths$Course", "told", "[I", true)
  | _ => ("LimeDeaths$Course", "mornings", "[I", true)
def tyX1 : Nat → FieldType := fun k => match k with
  | 0 => .int
  | 1 => .array .int
  | 2 => .array .int
  | _ => .array .int
abbrev wsX10 : List Cond := u_ws RX1 TX1 4
theorem nmX1 : ∀ a, a < 4 → ∀ b, b < 4 → a ≠ b → (TX1 a).2.1 ≠ (TX1 b).2.1 := by decide +kernel
theorem tyX1_ok : ∀ k, k < 4 → parseFieldDescriptor (TX1 k).2.2.1 = some (tyX1 k) := by decide +kernel
def RX2 : String := "LimeDeaths$Green"
def TX2 : u_T := fun k => match k with
  | 0 => ("LimeDeaths$Green", "size", "I", false)
  | 1 => ("LimeDeaths$Green", "firstBoughs", "I", false)
  | 2 => ("LimeDeaths$Green", "commons", "I", false)
  | 3 => ("LimeDeaths$Green", "kind", "[I", true)
  | 4 => ("LimeDeaths$Green", "bough", "[I", true)
  | _ => ("LimeDeaths$Green", "worth", "[I", true)
def tyX2 : Nat → FieldType := fun k => match k with
  | 0 => .int
  | 1 => .int
  | 2 => .int
  | 3 => .array .int
  | 4 => .array .int
  | _ => .array .int
abbrev wsX20 : List Cond := u_ws RX2 TX2 6
theorem nmX2 : ∀ a, a < 6 → ∀ b, b < 6 → a ≠ b → (TX2 a).2.1 ≠ (TX2 b).2.1 := by decide +kernel
theorem tyX2_ok : ∀ k, k < 6 → parseFieldDescriptor (TX2 k).2.2.1 = some (tyX2 k) := by decide +kernel
def RX3 : String := "LimeDeaths$Kinds"
def TX3 : u_T := fun k => match k with
  | _ => ("", "", "", false)
def tyX3 : Nat → FieldType := fun k => match k with
  | _ => .int
abbrev wsX30 : List Cond := u_ws RX3 TX3 0
theorem nmX3 : ∀ a, a < 0 → ∀ b, b < 0 → a ≠ b → (TX3 a).2.1 ≠ (TX3 b).2.1 := by decide +kernel
theorem tyX3_ok : ∀ k, k < 0 → parseFieldDescriptor (TX3 k).2.2.1 = some (tyX3 k) := by decide +kernel
def RX4 : String := "LimeDeaths$Orders"
def TX4 : u_T := fun k => match k with
  | 0 => ("LimeDeaths$Orders", "tried", "[I", true)
  | 1 => ("LimeDeaths$Orders", "best", "[I", true)
  | 2 => ("LimeDeaths$Orders", "bestSize", "I", false)
  | 3 => ("LimeDeaths$Orders", "most", "I", false)
  | 4 => ("LimeDeaths$Orders", "aimedBough", "I", false)
  | _ => ("LimeDeaths$Orders", "aimedLeaves", "I", false)
def tyX4 : Nat → FieldType := fun k => match k with
  | 0 => .array .int
  | 1 => .array .int
  | 2 => .int
  | 3 => .int
  | 4 => .int
  | _ => .int
abbrev wsX40 : List Cond := u_ws RX4 TX4 6
theorem nmX4 : ∀ a, a < 6 → ∀ b, b < 6 → a ≠ b → (TX4 a).2.1 ≠ (TX4 b).2.1 := by decide +kernel
theorem tyX4_ok : ∀ k, k < 6 → parseFieldDescriptor (TX4 k).2.2.1 = some (tyX4 k) := by decide +kernel
def RX5 : String := "LimeDeaths$Reader"
def TX5 : u_T := fun k => match k with
  | 0 => ("LimeDeaths$Reader", "place", "I", false)
  | _ => ("LimeDeaths$Reader", "fault", "I", false)
def tyX5 : Nat → FieldType := fun k => match k with
  | 0 => .int
  | _ => .int
abbrev wsX50 : List Cond := u_ws RX5 TX5 2
theorem nmX5 : ∀ a, a < 2 → ∀ b, b < 2 → a ≠ b → (TX5 a).2.1 ≠ (TX5 b).2.1 := by decide +kernel
theorem tyX5_ok : ∀ k, k < 2 → parseFieldDescriptor (TX5 k).2.2.1 = some (tyX5 k) := by decide +kernel
def RX6 : String := "LimeDeaths$Row"
def TX6 : u_T := fun k => match k with
  | 0 => ("LimeDeaths$Row", "size", "I", false)
  | _ => ("LimeDeaths$Row", "places", "[I", true)
def tyX6 : Nat → FieldType := fun k => match k with
  | 0 => .int
  | _ => .array .int
abbrev wsX60 : List Cond := u_ws RX6 TX6 2
theorem nmX6 : ∀ a, a < 2 → ∀ b, b < 2 → a ≠ b → (TX6 a).2.1 ≠ (TX6 b).2.1 := by decide +kernel
theorem tyX6_ok : ∀ k, k < 2 → parseFieldDescriptor (TX6 k).2.2.1 = some (tyX6 k) := by decide +kernel
def RX7 : String := "LimeDeaths$Text"
def TX7 : u_T := fun k => match k with
  | 0 => ("LimeDeaths$Text", "size", "I", false)
  | _ => ("LimeDeaths$Text", "bytes", "[B", true)
def tyX7 : Nat → FieldType := fun k => match k with
  | 0 => .int
  | _ => .array .byte
abbrev wsX70 : List Cond := u_ws RX7 TX7 2
theorem nmX7 : ∀ a, a < 2 → ∀ b, b < 2 → a ≠ b → (TX7 a).2.1 ≠ (TX7 b).2.1 := by decide +kernel
theorem tyX7_ok : ∀ k, k < 2 → parseFieldDescriptor (TX7 k).2.2.1 = some (tyX7 k) := by decide +kernel
def RX8 : String := "LimeDeaths"
def TX8 : u_T := fun k => match k with
  | 0 => ("LimeDeaths", "rows", "[LLimeDeaths$Row;", true)
  | 1 => ("LimeDeaths", "texts", "[LLimeDeaths$Text;", true)
  | 2 => ("LimeDeaths", "reader", "LLimeDeaths$Reader;", true)
  | 3 => ("LimeDeaths", "orders", "LLimeDeaths$Orders;", true)
  | 4 => ("LimeDeaths", "course", "LLimeDeaths$Course;", true)
  | 5 => ("LimeDeaths", "kept", "[LLimeDeaths$Course;", true)
  | 6 => ("LimeDeaths", "parts", "[I", true)
  | 7 => ("LimeDeaths", "found", "[I", true)
  | 8 => ("LimeDeaths", "lime", "LLimeDeaths$Green;", false)
  | 9 => ("LimeDeaths", "draft", "LLimeDeaths$Green;", false)
  | 10 => ("LimeDeaths", "asked", "I", false)
  | 11 => ("LimeDeaths", "upper", "J", false)
  | 12 => ("LimeDeaths", "lower", "J", false)
  | _ => ("LimeDeaths", "finding", "I", false)
def tyX8 : Nat → FieldType := fun k => match k with
  | 0 => .array (.object "LimeDeaths$Row")
  | 1 => .array (.object "LimeDeaths$Text")
  | 2 => .object "LimeDeaths$Reader"
  | 3 => .object "LimeDeaths$Orders"
  | 4 => .object "LimeDeaths$Course"
  | 5 => .array (.object "LimeDeaths$Course")
  | 6 => .array .int
  | 7 => .array .int
  | 8 => .object "LimeDeaths$Green"
  | 9 => .object "LimeDeaths$Green"
  | 10 => .int
  | 11 => .long
  | 12 => .long
  | _ => .int
abbrev wsX80 : List Cond := u_ws RX8 TX8 14
theorem nmX8 : ∀ a, a < 14 → ∀ b, b < 14 → a ≠ b → (TX8 a).2.1 ≠ (TX8 b).2.1 := by decide +kernel
theorem tyX8_ok : ∀ k, k < 14 → parseFieldDescriptor (TX8 k).2.2.1 = some (tyX8 k) := by decide +kernel
def RX9 : String := "LimeDeathsModel"
def TX9 : u_T := fun k => match k with
  | 0 => ("LimeDeathsModel", "w", "[I", true)
  | 1 => ("LimeDeathsModel", "rowSize", "[I", true)
  | 2 => ("LimeDeathsModel", "ints", "[I", true)
  | 3 => ("LimeDeathsModel", "textSize", "[I", true)
  | 4 => ("LimeDeathsModel", "bytes", "[I", true)
  | 5 => ("LimeDeathsModel", "found", "I", false)
  | 6 => ("LimeDeathsModel", "finds", "[I", true)
  | 7 => ("LimeDeathsModel", "asked", "I", false)
  | 8 => ("LimeDeathsModel", "upper", "J", false)
  | 9 => ("LimeDeathsModel", "lower", "J", false)
  | 10 => ("LimeDeathsModel", "held", "[I", true)
  | 11 => ("LimeDeathsModel", "from", "I", false)
  | 12 => ("LimeDeathsModel", "place", "I", false)
  | 13 => ("LimeDeathsModel", "end", "I", false)
  | 14 => ("LimeDeathsModel", "readMany", "I", false)
  | 15 => ("LimeDeathsModel", "read", "[I", true)
  | 16 => ("LimeDeathsModel", "leaf", "[I", true)
  | 17 => ("LimeDeathsModel", "order", "[I", true)
  | 18 => ("LimeDeathsModel", "bestOrder", "[I", true)
  | 19 => ("LimeDeathsModel", "fits", "[Z", true)
  | 20 => ("LimeDeathsModel", "leafThen", "[I", true)
  | 21 => ("LimeDeathsModel", "turnChoice", "[I", true)
  | 22 => ("LimeDeathsModel", "turnBest", "[I", true)
  | 23 => ("LimeDeathsModel", "turnWho", "[I", true)
  | _ => ("LimeDeathsModel", "h", "J", false)
def tyX9 : Nat → FieldType := fun k => match k with
  | 0 => .array .int
  | 1 => .array .int
  | 2 => .array .int
  | 3 => .array .int
  | 4 => .array .int
  | 5 => .int
  | 6 => .array .int
  | 7 => .int
  | 8 => .long
  | 9 => .long
  | 10 => .array .int
  | 11 => .int
  | 12 => .int
  | 13 => .int
  | 14 => .int
  | 15 => .array .int
  | 16 => .array .int
  | 17 => .array .int
  | 18 => .array .int
  | 19 => .array .boolean
  | 20 => .array .int
  | 21 => .array .int
  | 22 => .array .int
  | 23 => .array .int
  | _ => .long
abbrev wsX90 : List Cond := u_ws RX9 TX9 25
theorem nmX9 : ∀ a, a < 25 → ∀ b, b < 25 → a ≠ b → (TX9 a).2.1 ≠ (TX9 b).2.1 := by decide +kernel
theorem tyX9_ok : ∀ k, k < 25 → parseFieldDescriptor (TX9 k).2.2.1 = some (tyX9 k) := by decide +kernel
abbrev vwCl : List vw_C := [(RX0, TX0, 0), (RX1, TX1, 4), (RX2, TX2, 6), (RX3, TX3, 0), (RX4, TX4, 6), (RX5, TX5, 2), (RX6, TX6, 2), (RX7, TX7, 2), (RX8, TX8, 14), (RX9, TX9, 25)]
def xtyO : Nat → Nat → FieldType := fun c => match c with
  | 0 => tyX0
  | 1 => tyX1
  | 2 => tyX2
  | 3 => tyX3
  | 4 => tyX4
  | 5 => tyX5
  | 6 => tyX6
  | 7 => tyX7
  | 8 => tyX8
  | _ => tyX9
def RJ6 : String := "java/lang/Integer"
def RJ9 : String := "java/lang/Math"
def RJ7 : String := "java/util/Arrays"
def RL : String := "LimeDeathsLaw"
abbrev cX0_leavesOf : ByteArray := prog_2_method_2_code
def yX0_leavesOf : MethodName := ⟨RX0, "leavesOf", "(II)I"⟩
abbrev cX0_with : ByteArray := prog_2_method_3_code
def yX0_with : MethodName := ⟨RX0, "with", "(III)I"⟩
abbrev cX0_sum : ByteArray := prog_2_method_4_code
def yX0_sum : MethodName := ⟨RX0, "sum", "(I)I"⟩
abbrev cX0_evenLead : ByteArray := prog_2_method_5_code
def yX0_evenLead : MethodName := ⟨RX0, "evenLead", "(I)I"⟩
abbrev cX0_bareOnes : ByteArray := prog_2_method_6_code
def yX0_bareOnes : MethodName := ⟨RX0, "bareOnes", "(I)I"⟩
abbrev cX0_leavesLater : ByteArray := prog_2_method_7_code
def yX0_leavesLater : MethodName := ⟨RX0, "leavesLater", "(III)I"⟩
abbrev cX1_init : ByteArray := prog_3_method_1_code
def yX1_init : MethodName := ⟨RX1, "<init>", "()V"⟩
abbrev cX1_begin : ByteArray := prog_3_method_2_code
def yX1_begin : MethodName := ⟨RX1, "begin", "(I)V"⟩
abbrev cX1_hasRoom : ByteArray := prog_3_method_3_code
def yX1_hasRoom : MethodName := ⟨RX1, "hasRoom", "(I)Z"⟩
abbrev cX1_add : ByteArray := prog_3_method_4_code
def yX1_add : MethodName := ⟨RX1, "add", "(III)V"⟩
abbrev cX1_boughsNow : ByteArray := prog_3_method_5_code
def yX1_boughsNow : MethodName := ⟨RX1, "boughsNow", "()I"⟩
abbrev cX1_toldNow : ByteArray := prog_3_method_6_code
def yX1_toldNow : MethodName := ⟨RX1, "toldNow", "()I"⟩
abbrev cX1_morningNow : ByteArray := prog_3_method_7_code
def yX1_morningNow : MethodName := ⟨RX1, "morningNow", "()I"⟩
abbrev cX1_become : ByteArray := prog_3_method_8_code
def yX1_become : MethodName := ⟨RX1, "become", "(LLimeDeaths$Course;)V"⟩
abbrev cX2_init : ByteArray := prog_4_method_1_code
def yX2_init : MethodName := ⟨RX2, "<init>", "()V"⟩
abbrev cX2_clear : ByteArray := prog_4_method_2_code
def yX2_clear : MethodName := ⟨RX2, "clear", "()V"⟩
abbrev cX2_add : ByteArray := prog_4_method_3_code
def yX2_add : MethodName := ⟨RX2, "add", "(III)V"⟩
abbrev cX2_all : ByteArray := prog_4_method_4_code
def yX2_all : MethodName := ⟨RX2, "all", "()I"⟩
abbrev cX2_goods : ByteArray := prog_4_method_5_code
def yX2_goods : MethodName := ⟨RX2, "goods", "()I"⟩
abbrev cX2_deathsOf : ByteArray := prog_4_method_6_code
def yX2_deathsOf : MethodName := ⟨RX2, "deathsOf", "(I)I"⟩
abbrev cX2_worthOf : ByteArray := prog_4_method_7_code
def yX2_worthOf : MethodName := ⟨RX2, "worthOf", "(I)I"⟩
abbrev cX2_canTell : ByteArray := prog_4_method_8_code
def yX2_canTell : MethodName := ⟨RX2, "canTell", "(II)Z"⟩
abbrev cX2_tellable : ByteArray := prog_4_method_9_code
def yX2_tellable : MethodName := ⟨RX2, "tellable", "(I)I"⟩
abbrev cX2_haunting : ByteArray := prog_4_method_10_code
def yX2_haunting : MethodName := ⟨RX2, "haunting", "(II)I"⟩
abbrev cX2_answerOf : ByteArray := prog_4_method_11_code
def yX2_answerOf : MethodName := ⟨RX2, "answerOf", "(II)I"⟩
abbrev cX2_boughsTold : ByteArray := prog_4_method_12_code
def yX2_boughsTold : MethodName := ⟨RX2, "boughsTold", "(II)I"⟩
abbrev cX2_boughsLater : ByteArray := prog_4_method_13_code
def yX2_boughsLater : MethodName := ⟨RX2, "boughsLater", "(III)I"⟩
abbrev cX3_ofLetter : ByteArray := prog_5_method_2_code
def yX3_ofLetter : MethodName := ⟨RX3, "ofLetter", "(I)I"⟩
abbrev cX3_isOf : ByteArray := prog_5_method_3_code
def yX3_isOf : MethodName := ⟨RX3, "isOf", "(II)Z"⟩
abbrev cX3_haunt : ByteArray := prog_5_method_4_code
def yX3_haunt : MethodName := ⟨RX3, "haunt", "(I)I"⟩
abbrev cX3_answer : ByteArray := prog_5_method_5_code
def yX3_answer : MethodName := ⟨RX3, "answer", "(III)I"⟩
abbrev cX3_goodAnswer : ByteArray := prog_5_method_6_code
def yX3_goodAnswer : MethodName := ⟨RX3, "goodAnswer", "(II)I"⟩
abbrev cX4_init : ByteArray := prog_6_method_1_code
def yX4_init : MethodName := ⟨RX4, "<init>", "()V"⟩
abbrev cX4_findMost : ByteArray := prog_6_method_2_code
def yX4_findMost : MethodName := ⟨RX4, "findMost", "(LLimeDeaths$Green;III)I"⟩
abbrev cX4_tryOrders : ByteArray := prog_6_method_3_code
def yX4_tryOrders : MethodName := ⟨RX4, "tryOrders", "(LLimeDeaths$Green;IIII)V"⟩
abbrev cX4_aimAt : ByteArray := prog_6_method_4_code
def yX4_aimAt : MethodName := ⟨RX4, "aimAt", "(II)V"⟩
abbrev cX4_findFewest : ByteArray := prog_6_method_5_code
def yX4_findFewest : MethodName := ⟨RX4, "findFewest", "(LLimeDeaths$Green;II)I"⟩
abbrev cX4_reachesAim : ByteArray := prog_6_method_6_code
def yX4_reachesAim : MethodName := ⟨RX4, "reachesAim", "(LLimeDeaths$Green;IIII)Z"⟩
abbrev cX4_takeTried : ByteArray := prog_6_method_7_code
def yX4_takeTried : MethodName := ⟨RX4, "takeTried", "(I)V"⟩
abbrev cX4_layInto : ByteArray := prog_6_method_8_code
def yX4_layInto : MethodName := ⟨RX4, "layInto", "(LLimeDeaths$Row;)V"⟩
abbrev cX5_init : ByteArray := prog_7_method_1_code
def yX5_init : MethodName := ⟨RX5, "<init>", "()V"⟩
abbrev cX5_read : ByteArray := prog_7_method_2_code
def yX5_read : MethodName := ⟨RX5, "read", "(LLimeDeaths$Text;LLimeDeaths$Green;)I"⟩
abbrev cX5_skipBlanks : ByteArray := prog_7_method_3_code
def yX5_skipBlanks : MethodName := ⟨RX5, "skipBlanks", "(LLimeDeaths$Text;)V"⟩
abbrev cX5_readBoughs : ByteArray := prog_7_method_4_code
def yX5_readBoughs : MethodName := ⟨RX5, "readBoughs", "(LLimeDeaths$Text;LLimeDeaths$Green;)V"⟩
abbrev cX5_readDeath : ByteArray := prog_7_method_5_code
def yX5_readDeath : MethodName := ⟨RX5, "readDeath", "(LLimeDeaths$Text;LLimeDeaths$Green;)V"⟩
abbrev cX5_readFigure : ByteArray := prog_7_method_6_code
def yX5_readFigure : MethodName := ⟨RX5, "readFigure", "(LLimeDeaths$Text;I)I"⟩
abbrev cX6_init : ByteArray := prog_8_method_1_code
def yX6_init : MethodName := ⟨RX6, "<init>", "()V"⟩
abbrev cX6_isMissing : ByteArray := prog_8_method_2_code
def yX6_isMissing : MethodName := ⟨RX6, "isMissing", "()Z"⟩
abbrev cX6_begin : ByteArray := prog_8_method_3_code
def yX6_begin : MethodName := ⟨RX6, "begin", "(I)V"⟩
abbrev cX6_hasRun : ByteArray := prog_8_method_4_code
def yX6_hasRun : MethodName := ⟨RX6, "hasRun", "(II)Z"⟩
abbrev cX6_holdsLeavesAlone : ByteArray := prog_8_method_5_code
def yX6_holdsLeavesAlone : MethodName := ⟨RX6, "holdsLeavesAlone", "()Z"⟩
abbrev cX6_digestOnto : ByteArray := prog_8_method_6_code
def yX6_digestOnto : MethodName := ⟨RX6, "digestOnto", "(J)J"⟩
abbrev cX7_init : ByteArray := prog_9_method_1_code
def yX7_init : MethodName := ⟨RX7, "<init>", "()V"⟩
abbrev cX7_isMissing : ByteArray := prog_9_method_2_code
def yX7_isMissing : MethodName := ⟨RX7, "isMissing", "()Z"⟩
abbrev cX7_begin : ByteArray := prog_9_method_3_code
def yX7_begin : MethodName := ⟨RX7, "begin", "(I)V"⟩
abbrev cX7_digestOnto : ByteArray := prog_9_method_4_code
def yX7_digestOnto : MethodName := ⟨RX7, "digestOnto", "(J)J"⟩
abbrev cX8_init : ByteArray := prog_1_method_1_code
def yX8_init : MethodName := ⟨RX8, "<init>", "()V"⟩
abbrev cX8_row : ByteArray := prog_1_method_2_code
def yX8_row : MethodName := ⟨RX8, "row", "(II)I"⟩
abbrev cX8_lay : ByteArray := prog_1_method_3_code
def yX8_lay : MethodName := ⟨RX8, "lay", "(III)I"⟩
abbrev cX8_at : ByteArray := prog_1_method_4_code
def yX8_at : MethodName := ⟨RX8, "at", "(II)I"⟩
abbrev cX8_tear : ByteArray := prog_1_method_5_code
def yX8_tear : MethodName := ⟨RX8, "tear", "(I)I"⟩
abbrev cX8_copy : ByteArray := prog_1_method_6_code
def yX8_copy : MethodName := ⟨RX8, "copy", "(IIIII)I"⟩
abbrev cX8_mean : ByteArray := prog_1_method_7_code
def yX8_mean : MethodName := ⟨RX8, "mean", "(I)I"⟩
abbrev cX8_text : ByteArray := prog_1_method_8_code
def yX8_text : MethodName := ⟨RX8, "text", "(II)I"⟩
abbrev cX8_put : ByteArray := prog_1_method_9_code
def yX8_put : MethodName := ⟨RX8, "put", "(III)I"⟩
abbrev cX8_fault : ByteArray := prog_1_method_10_code
def yX8_fault : MethodName := ⟨RX8, "fault", "(I)I"⟩
abbrev cX8_green : ByteArray := prog_1_method_11_code
def yX8_green : MethodName := ⟨RX8, "green", "(I)I"⟩
abbrev cX8_bough : ByteArray := prog_1_method_12_code
def yX8_bough : MethodName := ⟨RX8, "bough", "(II)I"⟩
abbrev cX8_death : ByteArray := prog_1_method_13_code
def yX8_death : MethodName := ⟨RX8, "death", "(II)I"⟩
abbrev cX8_mark : ByteArray := prog_1_method_14_code
def yX8_mark : MethodName := ⟨RX8, "mark", "(II)I"⟩
abbrev cX8_morning : ByteArray := prog_1_method_15_code
def yX8_morning : MethodName := ⟨RX8, "morning", "()I"⟩
abbrev cX8_tell : ByteArray := prog_1_method_16_code
def yX8_tell : MethodName := ⟨RX8, "tell", "(I)I"⟩
abbrev cX8_water : ByteArray := prog_1_method_17_code
def yX8_water : MethodName := ⟨RX8, "water", "(II)I"⟩
abbrev cX8_prune : ByteArray := prog_1_method_18_code
def yX8_prune : MethodName := ⟨RX8, "prune", "(I)I"⟩
abbrev cX8_undo : ByteArray := prog_1_method_19_code
def yX8_undo : MethodName := ⟨RX8, "undo", "(I)I"⟩
abbrev cX8_keep : ByteArray := prog_1_method_20_code
def yX8_keep : MethodName := ⟨RX8, "keep", "(I)I"⟩
abbrev cX8_on : ByteArray := prog_1_method_21_code
def yX8_on : MethodName := ⟨RX8, "on", "(I)I"⟩
abbrev cX8_answers : ByteArray := prog_1_method_22_code
def yX8_answers : MethodName := ⟨RX8, "answers", "(III)I"⟩
abbrev cX8_leaves : ByteArray := prog_1_method_23_code
def yX8_leaves : MethodName := ⟨RX8, "leaves", "(I)I"⟩
abbrev cX8_bare : ByteArray := prog_1_method_24_code
def yX8_bare : MethodName := ⟨RX8, "bare", "(I)I"⟩
abbrev cX8_round : ByteArray := prog_1_method_25_code
def yX8_round : MethodName := ⟨RX8, "round", "(II)I"⟩
abbrev cX8_plan : ByteArray := prog_1_method_26_code
def yX8_plan : MethodName := ⟨RX8, "plan", "(III)I"⟩
abbrev cX8_about : ByteArray := prog_1_method_27_code
def yX8_about : MethodName := ⟨RX8, "about", "(II)I"⟩
abbrev cX8_sure : ByteArray := prog_1_method_28_code
def yX8_sure : MethodName := ⟨RX8, "sure", "(II)I"⟩
abbrev cX8_next : ByteArray := prog_1_method_29_code
def yX8_next : MethodName := ⟨RX8, "next", "(II)I"⟩
abbrev cX8_worths : ByteArray := prog_1_method_30_code
def yX8_worths : MethodName := ⟨RX8, "worths", "(II)I"⟩
abbrev cX8_kinds : ByteArray := prog_1_method_31_code
def yX8_kinds : MethodName := ⟨RX8, "kinds", "(II)I"⟩
abbrev cX8_sets : ByteArray := prog_1_method_32_code
def yX8_sets : MethodName := ⟨RX8, "sets", "(I)I"⟩
abbrev cX8_surely : ByteArray := prog_1_method_33_code
def yX8_surely : MethodName := ⟨RX8, "surely", "(I)I"⟩
abbrev cX8_duel : ByteArray := prog_1_method_34_code
def yX8_duel : MethodName := ⟨RX8, "duel", "(I)I"⟩
abbrev cX8_odds : ByteArray := prog_1_method_35_code
def yX8_odds : MethodName := ⟨RX8, "odds", "(III)I"⟩
abbrev cX8_mid : ByteArray := prog_1_method_36_code
def yX8_mid : MethodName := ⟨RX8, "mid", "(I)I"⟩
abbrev cX8_lots : ByteArray := prog_1_method_37_code
def yX8_lots : MethodName := ⟨RX8, "lots", "(II)I"⟩
abbrev cX8_asked : ByteArray := prog_1_method_38_code
def yX8_asked : MethodName := ⟨RX8, "asked", "()I"⟩
abbrev cX8_upper : ByteArray := prog_1_method_39_code
def yX8_upper : MethodName := ⟨RX8, "upper", "()J"⟩
abbrev cX8_lower : ByteArray := prog_1_method_40_code
def yX8_lower : MethodName := ⟨RX8, "lower", "()J"⟩
abbrev cX8_count : ByteArray := prog_1_method_41_code
def yX8_count : MethodName := ⟨RX8, "count", "(I)I"⟩
abbrev cX8_finding : ByteArray := prog_1_method_42_code
def yX8_finding : MethodName := ⟨RX8, "finding", "()I"⟩
abbrev cX8_findings : ByteArray := prog_1_method_43_code
def yX8_findings : MethodName := ⟨RX8, "findings", "(I)I"⟩
abbrev cX8_digest : ByteArray := prog_1_method_44_code
def yX8_digest : MethodName := ⟨RX8, "digest", "()J"⟩
abbrev cX8_isWithin : ByteArray := prog_1_method_45_code
def yX8_isWithin : MethodName := ⟨RX8, "isWithin", "(II)Z"⟩
abbrev cX8_find : ByteArray := prog_1_method_46_code
def yX8_find : MethodName := ⟨RX8, "find", "(I)I"⟩
abbrev cX8_say : ByteArray := prog_1_method_47_code
def yX8_say : MethodName := ⟨RX8, "say", "(I)I"⟩
abbrev cX8_setRatio : ByteArray := prog_1_method_48_code
def yX8_setRatio : MethodName := ⟨RX8, "setRatio", "(JJ)V"⟩
abbrev cX8_greatestDivisor : ByteArray := prog_1_method_49_code
def yX8_greatestDivisor : MethodName := ⟨RX8, "greatestDivisor", "(JJ)J"⟩
abbrev cX8_power : ByteArray := prog_1_method_50_code
def yX8_power : MethodName := ⟨RX8, "power", "(JI)J"⟩
abbrev cX8_rowRefusal : ByteArray := prog_1_method_51_code
def yX8_rowRefusal : MethodName := ⟨RX8, "rowRefusal", "(I)I"⟩
abbrev cX8_placeRefusal : ByteArray := prog_1_method_52_code
def yX8_placeRefusal : MethodName := ⟨RX8, "placeRefusal", "(II)I"⟩
abbrev cX8_textRefusal : ByteArray := prog_1_method_53_code
def yX8_textRefusal : MethodName := ⟨RX8, "textRefusal", "(I)I"⟩
abbrev cX8_watchRefusal : ByteArray := prog_1_method_54_code
def yX8_watchRefusal : MethodName := ⟨RX8, "watchRefusal", "(II)I"⟩
abbrev cX8_pairsRefusal : ByteArray := prog_1_method_55_code
def yX8_pairsRefusal : MethodName := ⟨RX8, "pairsRefusal", "(II)I"⟩
abbrev cX8_worthRefusal : ByteArray := prog_1_method_56_code
def yX8_worthRefusal : MethodName := ⟨RX8, "worthRefusal", "(I)I"⟩
abbrev cX8_leavesAt : ByteArray := prog_1_method_57_code
def yX8_leavesAt : MethodName := ⟨RX8, "leavesAt", "(I)I"⟩
abbrev cX8_factOf : ByteArray := prog_1_method_58_code
def yX8_factOf : MethodName := ⟨RX8, "factOf", "(II)I"⟩
abbrev cX8_fewestForNine : ByteArray := prog_1_method_59_code
def yX8_fewestForNine : MethodName := ⟨RX8, "fewestForNine", "(I)I"⟩
abbrev cX8_rowsThere : ByteArray := prog_1_method_60_code
def yX8_rowsThere : MethodName := ⟨RX8, "rowsThere", "()I"⟩
abbrev cX8_textsThere : ByteArray := prog_1_method_61_code
def yX8_textsThere : MethodName := ⟨RX8, "textsThere", "()I"⟩
abbrev cX8_keptThere : ByteArray := prog_1_method_62_code
def yX8_keptThere : MethodName := ⟨RX8, "keptThere", "()I"⟩
abbrev cX8_doMorning : ByteArray := prog_1_method_63_code
def yX8_doMorning : MethodName := ⟨RX8, "doMorning", "()V"⟩
abbrev cX8_doTelling : ByteArray := prog_1_method_64_code
def yX8_doTelling : MethodName := ⟨RX8, "doTelling", "(I)V"⟩
abbrev cX8_doWatering : ByteArray := prog_1_method_65_code
def yX8_doWatering : MethodName := ⟨RX8, "doWatering", "(II)V"⟩
abbrev cX8_doPruning : ByteArray := prog_1_method_66_code
def yX8_doPruning : MethodName := ⟨RX8, "doPruning", "(I)V"⟩
abbrev cX8_doNothing : ByteArray := prog_1_method_67_code
def yX8_doNothing : MethodName := ⟨RX8, "doNothing", "()V"⟩
abbrev cX8_doByLot : ByteArray := prog_1_method_68_code
def yX8_doByLot : MethodName := ⟨RX8, "doByLot", "(I)V"⟩
abbrev cX8_fitsWatch : ByteArray := prog_1_method_69_code
def yX8_fitsWatch : MethodName := ⟨RX8, "fitsWatch", "(IILLimeDeaths$Row;)Z"⟩
abbrev cX8_greatestPart : ByteArray := prog_1_method_70_code
def yX8_greatestPart : MethodName := ⟨RX8, "greatestPart", "(IILLimeDeaths$Row;)I"⟩
abbrev cX8_fitsPairs : ByteArray := prog_1_method_71_code
def yX8_fitsPairs : MethodName := ⟨RX8, "fitsPairs", "(IILLimeDeaths$Row;)Z"⟩
abbrev cX8_leadAfter : ByteArray := prog_1_method_72_code
def yX8_leadAfter : MethodName := ⟨RX8, "leadAfter", "(LLimeDeaths$Green;III)I"⟩
abbrev cX8_boughsIfTold : ByteArray := prog_1_method_73_code
def yX8_boughsIfTold : MethodName := ⟨RX8, "boughsIfTold", "(I)I"⟩
abbrev cX8_weightOf : ByteArray := prog_1_method_74_code
def yX8_weightOf : MethodName := ⟨RX8, "weightOf", "(III)J"⟩
abbrev cX9_init : ByteArray := prog_11_method_1_code
def yX9_init : MethodName := ⟨RX9, "<init>", "()V"⟩
abbrev cX9_in : ByteArray := prog_11_method_3_code
def yX9_in : MethodName := ⟨RX9, "in", "(JJJ)Z"⟩
abbrev cX9_has : ByteArray := prog_11_method_4_code
def yX9_has : MethodName := ⟨RX9, "has", "(II)Z"⟩
abbrev cX9_ones : ByteArray := prog_11_method_5_code
def yX9_ones : MethodName := ⟨RX9, "ones", "(I)I"⟩
abbrev cX9_finds : ByteArray := prog_11_method_6_code
def yX9_finds : MethodName := ⟨RX9, "finds", "(I)I"⟩
abbrev cX9_tells : ByteArray := prog_11_method_7_code
def yX9_tells : MethodName := ⟨RX9, "tells", "(I)I"⟩
abbrev cX9_tellsPart : ByteArray := prog_11_method_8_code
def yX9_tellsPart : MethodName := ⟨RX9, "tellsPart", "(JJ)I"⟩
abbrev cX9_bring : ByteArray := prog_11_method_9_code
def yX9_bring : MethodName := ⟨RX9, "bring", "(II)V"⟩
abbrev cX9_isRow : ByteArray := prog_11_method_10_code
def yX9_isRow : MethodName := ⟨RX9, "isRow", "(I)Z"⟩
abbrev cX9_isText : ByteArray := prog_11_method_11_code
def yX9_isText : MethodName := ⟨RX9, "isText", "(I)Z"⟩
abbrev cX9_isDeath : ByteArray := prog_11_method_12_code
def yX9_isDeath : MethodName := ⟨RX9, "isDeath", "(I)Z"⟩
abbrev cX9_isBough : ByteArray := prog_11_method_13_code
def yX9_isBough : MethodName := ⟨RX9, "isBough", "(I)Z"⟩
abbrev cX9_row : ByteArray := prog_11_method_14_code
def yX9_row : MethodName := ⟨RX9, "row", "(II)I"⟩
abbrev cX9_lay : ByteArray := prog_11_method_15_code
def yX9_lay : MethodName := ⟨RX9, "lay", "(III)I"⟩
abbrev cX9_at : ByteArray := prog_11_method_16_code
def yX9_at : MethodName := ⟨RX9, "at", "(II)I"⟩
abbrev cX9_tear : ByteArray := prog_11_method_17_code
def yX9_tear : MethodName := ⟨RX9, "tear", "(I)I"⟩
abbrev cX9_copy : ByteArray := prog_11_method_18_code
def yX9_copy : MethodName := ⟨RX9, "copy", "(IIIII)I"⟩
abbrev cX9_mean : ByteArray := prog_11_method_19_code
def yX9_mean : MethodName := ⟨RX9, "mean", "(I)I"⟩
abbrev cX9_text : ByteArray := prog_11_method_20_code
def yX9_text : MethodName := ⟨RX9, "text", "(II)I"⟩
abbrev cX9_put : ByteArray := prog_11_method_21_code
def yX9_put : MethodName := ⟨RX9, "put", "(III)I"⟩
abbrev cX9_here : ByteArray := prog_11_method_22_code
def yX9_here : MethodName := ⟨RX9, "here", "()I"⟩
abbrev cX9_kindOf : ByteArray := prog_11_method_23_code
def yX9_kindOf : MethodName := ⟨RX9, "kindOf", "(I)I"⟩
abbrev cX9_takes : ByteArray := prog_11_method_24_code
def yX9_takes : MethodName := ⟨RX9, "takes", "(II)Z"⟩
abbrev cX9_takesTree : ByteArray := prog_11_method_25_code
def yX9_takesTree : MethodName := ⟨RX9, "takesTree", "()Z"⟩
abbrev cX9_takesDeath : ByteArray := prog_11_method_26_code
def yX9_takesDeath : MethodName := ⟨RX9, "takesDeath", "()Z"⟩
abbrev cX9_blanks : ByteArray := prog_11_method_27_code
def yX9_blanks : MethodName := ⟨RX9, "blanks", "()V"⟩
abbrev cX9_faultOf : ByteArray := prog_11_method_28_code
def yX9_faultOf : MethodName := ⟨RX9, "faultOf", "(I)I"⟩
abbrev cX9_fault : ByteArray := prog_11_method_29_code
def yX9_fault : MethodName := ⟨RX9, "fault", "(I)I"⟩
abbrev cX9_green : ByteArray := prog_11_method_30_code
def yX9_green : MethodName := ⟨RX9, "green", "(I)I"⟩
abbrev cX9_isA : ByteArray := prog_11_method_31_code
def yX9_isA : MethodName := ⟨RX9, "isA", "(II)Z"⟩
abbrev cX9_good : ByteArray := prog_11_method_32_code
def yX9_good : MethodName := ⟨RX9, "good", "(II)I"⟩
abbrev cX9_toldBy : ByteArray := prog_11_method_33_code
def yX9_toldBy : MethodName := ⟨RX9, "toldBy", "(III)I"⟩
abbrev cX9_toldOf : ByteArray := prog_11_method_34_code
def yX9_toldOf : MethodName := ⟨RX9, "toldOf", "(II)I"⟩
abbrev cX9_all : ByteArray := prog_11_method_35_code
def yX9_all : MethodName := ⟨RX9, "all", "()I"⟩
abbrev cX9_kings : ByteArray := prog_11_method_36_code
def yX9_kings : MethodName := ⟨RX9, "kings", "()I"⟩
abbrev cX9_canBe : ByteArray := prog_11_method_37_code
def yX9_canBe : MethodName := ⟨RX9, "canBe", "(II)Z"⟩
abbrev cX9_haunting : ByteArray := prog_11_method_38_code
def yX9_haunting : MethodName := ⟨RX9, "haunting", "(I)I"⟩
abbrev cX9_haunted : ByteArray := prog_11_method_39_code
def yX9_haunted : MethodName := ⟨RX9, "haunted", "(II)I"⟩
abbrev cX9_tries : ByteArray := prog_11_method_40_code
def yX9_tries : MethodName := ⟨RX9, "tries", "()V"⟩
abbrev cX9_greens : ByteArray := prog_11_method_41_code
def yX9_greens : MethodName := ⟨RX9, "greens", "(I)V"⟩
abbrev cX9_leafAll : ByteArray := prog_11_method_42_code
def yX9_leafAll : MethodName := ⟨RX9, "leafAll", "()I"⟩
abbrev cX9_leavesNow : ByteArray := prog_11_method_43_code
def yX9_leavesNow : MethodName := ⟨RX9, "leavesNow", "()I"⟩
abbrev cX9_deathsOf : ByteArray := prog_11_method_44_code
def yX9_deathsOf : MethodName := ⟨RX9, "deathsOf", "(I)I"⟩
abbrev cX9_bough : ByteArray := prog_11_method_45_code
def yX9_bough : MethodName := ⟨RX9, "bough", "(II)I"⟩
abbrev cX9_deathOf : ByteArray := prog_11_method_46_code
def yX9_deathOf : MethodName := ⟨RX9, "deathOf", "(II)I"⟩
abbrev cX9_death : ByteArray := prog_11_method_47_code
def yX9_death : MethodName := ⟨RX9, "death", "(II)I"⟩
abbrev cX9_fewestFor9 : ByteArray := prog_11_method_48_code
def yX9_fewestFor9 : MethodName := ⟨RX9, "fewestFor9", "(I)I"⟩
abbrev cX9_goodsAbout : ByteArray := prog_11_method_49_code
def yX9_goodsAbout : MethodName := ⟨RX9, "goodsAbout", "()I"⟩
abbrev cX9_mark : ByteArray := prog_11_method_50_code
def yX9_mark : MethodName := ⟨RX9, "mark", "(II)I"⟩
abbrev cX9_minds : ByteArray := prog_11_method_51_code
def yX9_minds : MethodName := ⟨RX9, "minds", "()V"⟩
abbrev cX9_passes : ByteArray := prog_11_method_52_code
def yX9_passes : MethodName := ⟨RX9, "passes", "()V"⟩
abbrev cX9_morning : ByteArray := prog_11_method_53_code
def yX9_morning : MethodName := ⟨RX9, "morning", "()I"⟩
abbrev cX9_toldNow : ByteArray := prog_11_method_54_code
def yX9_toldNow : MethodName := ⟨RX9, "toldNow", "(I)V"⟩
abbrev cX9_tell : ByteArray := prog_11_method_55_code
def yX9_tell : MethodName := ⟨RX9, "tell", "(I)I"⟩
abbrev cX9_waters : ByteArray := prog_11_method_56_code
def yX9_waters : MethodName := ⟨RX9, "waters", "(II)V"⟩
abbrev cX9_water : ByteArray := prog_11_method_57_code
def yX9_water : MethodName := ⟨RX9, "water", "(II)I"⟩
abbrev cX9_prune : ByteArray := prog_11_method_58_code
def yX9_prune : MethodName := ⟨RX9, "prune", "(I)I"⟩
abbrev cX9_undo : ByteArray := prog_11_method_59_code
def yX9_undo : MethodName := ⟨RX9, "undo", "(I)I"⟩
abbrev cX9_keep : ByteArray := prog_11_method_60_code
def yX9_keep : MethodName := ⟨RX9, "keep", "(I)I"⟩
abbrev cX9_on : ByteArray := prog_11_method_61_code
def yX9_on : MethodName := ⟨RX9, "on", "(I)I"⟩
abbrev cX9_answers : ByteArray := prog_11_method_62_code
def yX9_answers : MethodName := ⟨RX9, "answers", "(III)I"⟩
abbrev cX9_leaves : ByteArray := prog_11_method_63_code
def yX9_leaves : MethodName := ⟨RX9, "leaves", "(I)I"⟩
abbrev cX9_bare : ByteArray := prog_11_method_64_code
def yX9_bare : MethodName := ⟨RX9, "bare", "(I)I"⟩
abbrev cX9_tellsOrder : ByteArray := prog_11_method_65_code
def yX9_tellsOrder : MethodName := ⟨RX9, "tellsOrder", "(I)I"⟩
abbrev cX9_keepsOrder : ByteArray := prog_11_method_66_code
def yX9_keepsOrder : MethodName := ⟨RX9, "keepsOrder", "(I)V"⟩
abbrev cX9_laysOrder : ByteArray := prog_11_method_67_code
def yX9_laysOrder : MethodName := ⟨RX9, "laysOrder", "(II)V"⟩
abbrev cX9_round : ByteArray := prog_11_method_68_code
def yX9_round : MethodName := ⟨RX9, "round", "(II)I"⟩
abbrev cX9_plans : ByteArray := prog_11_method_69_code
def yX9_plans : MethodName := ⟨RX9, "plans", "(III)Z"⟩
abbrev cX9_plan : ByteArray := prog_11_method_70_code
def yX9_plan : MethodName := ⟨RX9, "plan", "(III)I"⟩
abbrev cX9_againstLeaves : ByteArray := prog_11_method_71_code
def yX9_againstLeaves : MethodName := ⟨RX9, "againstLeaves", "(II)I"⟩
abbrev cX9_areFigures : ByteArray := prog_11_method_72_code
def yX9_areFigures : MethodName := ⟨RX9, "areFigures", "(I)Z"⟩
abbrev cX9_laysFits : ByteArray := prog_11_method_73_code
def yX9_laysFits : MethodName := ⟨RX9, "laysFits", "(III)I"⟩
abbrev cX9_about : ByteArray := prog_11_method_74_code
def yX9_about : MethodName := ⟨RX9, "about", "(II)I"⟩
abbrev cX9_sure : ByteArray := prog_11_method_75_code
def yX9_sure : MethodName := ⟨RX9, "sure", "(II)I"⟩
abbrev cX9_next : ByteArray := prog_11_method_76_code
def yX9_next : MethodName := ⟨RX9, "next", "(II)I"⟩
abbrev cX9_againstPairs : ByteArray := prog_11_method_77_code
def yX9_againstPairs : MethodName := ⟨RX9, "againstPairs", "(II)I"⟩
abbrev cX9_answersSo : ByteArray := prog_11_method_78_code
def yX9_answersSo : MethodName := ⟨RX9, "answersSo", "(III)Z"⟩
abbrev cX9_worths : ByteArray := prog_11_method_79_code
def yX9_worths : MethodName := ⟨RX9, "worths", "(II)I"⟩
abbrev cX9_kinds : ByteArray := prog_11_method_80_code
def yX9_kinds : MethodName := ⟨RX9, "kinds", "(II)I"⟩
abbrev cX9_worthOf : ByteArray := prog_11_method_81_code
def yX9_worthOf : MethodName := ⟨RX9, "worthOf", "(I)I"⟩
abbrev cX9_sets : ByteArray := prog_11_method_82_code
def yX9_sets : MethodName := ⟨RX9, "sets", "(I)I"⟩
abbrev cX9_surely : ByteArray := prog_11_method_83_code
def yX9_surely : MethodName := ⟨RX9, "surely", "(I)I"⟩
abbrev cX9_evensMore : ByteArray := prog_11_method_84_code
def yX9_evensMore : MethodName := ⟨RX9, "evensMore", "()I"⟩
abbrev cX9_tellsTurns : ByteArray := prog_11_method_85_code
def yX9_tellsTurns : MethodName := ⟨RX9, "tellsTurns", "(I)I"⟩
abbrev cX9_playsOut : ByteArray := prog_11_method_86_code
def yX9_playsOut : MethodName := ⟨RX9, "playsOut", "(I)I"⟩
abbrev cX9_duel : ByteArray := prog_11_method_87_code
def yX9_duel : MethodName := ⟨RX9, "duel", "(I)I"⟩
abbrev cX9_chancesOf : ByteArray := prog_11_method_88_code
def yX9_chancesOf : MethodName := ⟨RX9, "chancesOf", "(II)J"⟩
abbrev cX9_down : ByteArray := prog_11_method_89_code
def yX9_down : MethodName := ⟨RX9, "down", "()J"⟩
abbrev cX9_odds : ByteArray := prog_11_method_90_code
def yX9_odds : MethodName := ⟨RX9, "odds", "(III)I"⟩
abbrev cX9_mid : ByteArray := prog_11_method_91_code
def yX9_mid : MethodName := ⟨RX9, "mid", "(I)I"⟩
abbrev cX9_lots : ByteArray := prog_11_method_92_code
def yX9_lots : MethodName := ⟨RX9, "lots", "(II)I"⟩
abbrev cX9_asked : ByteArray := prog_11_method_93_code
def yX9_asked : MethodName := ⟨RX9, "asked", "()I"⟩
abbrev cX9_upper : ByteArray := prog_11_method_94_code
def yX9_upper : MethodName := ⟨RX9, "upper", "()J"⟩
abbrev cX9_lower : ByteArray := prog_11_method_95_code
def yX9_lower : MethodName := ⟨RX9, "lower", "()J"⟩
abbrev cX9_rowsThere : ByteArray := prog_11_method_96_code
def yX9_rowsThere : MethodName := ⟨RX9, "rowsThere", "()I"⟩
abbrev cX9_textsThere : ByteArray := prog_11_method_97_code
def yX9_textsThere : MethodName := ⟨RX9, "textsThere", "()I"⟩
abbrev cX9_greensKept : ByteArray := prog_11_method_98_code
def yX9_greensKept : MethodName := ⟨RX9, "greensKept", "()I"⟩
abbrev cX9_canNow : ByteArray := prog_11_method_99_code
def yX9_canNow : MethodName := ⟨RX9, "canNow", "()I"⟩
abbrev cX9_bareNow : ByteArray := prog_11_method_100_code
def yX9_bareNow : MethodName := ⟨RX9, "bareNow", "()I"⟩
abbrev cX9_goods : ByteArray := prog_11_method_101_code
def yX9_goods : MethodName := ⟨RX9, "goods", "()I"⟩
abbrev cX9_count : ByteArray := prog_11_method_102_code
def yX9_count : MethodName := ⟨RX9, "count", "(I)I"⟩
abbrev cX9_finding : ByteArray := prog_11_method_103_code
def yX9_finding : MethodName := ⟨RX9, "finding", "()I"⟩
abbrev cX9_findings : ByteArray := prog_11_method_104_code
def yX9_findings : MethodName := ⟨RX9, "findings", "(I)I"⟩
abbrev cX9_mix : ByteArray := prog_11_method_105_code
def yX9_mix : MethodName := ⟨RX9, "mix", "(J)V"⟩
abbrev cX9_digest : ByteArray := prog_11_method_106_code
def yX9_digest : MethodName := ⟨RX9, "digest", "()J"⟩
abbrev cJ6_bitCount_0f7a4 : ByteArray := prog_12_method_49_code
def yJ6_bitCount_0f7a4 : MethodName := ⟨RJ6, "bitCount", "(I)I"⟩
abbrev cJ9_max_7cf53 : ByteArray := prog_13_method_65_code
def yJ9_max_7cf53 : MethodName := ⟨RJ9, "max", "(II)I"⟩
abbrev cJ9_min_7cf53 : ByteArray := prog_13_method_69_code
def yJ9_min_7cf53 : MethodName := ⟨RJ9, "min", "(II)I"⟩
abbrev cJ7_fill_53178 : ByteArray := prog_15_method_103_code
def yJ7_fill_53178 : MethodName := ⟨RJ7, "fill", "([II)V"⟩
abbrev cJ7_fill_031fb : ByteArray := prog_15_method_109_code
def yJ7_fill_031fb : MethodName := ⟨RJ7, "fill", "([BB)V"⟩
abbrev cL_law : ByteArray := code
def yL_law : MethodName := ⟨RL, "law", "([I)Z"⟩
/-- a method: name, bytes, locals, return type, arguments (with the receiver), class number (99: none), static, places of its words: code, static or instanceMethod, selects, initialized -/
abbrev xM : Type := MethodName × ByteArray × Nat × Option FieldType × Nat × Nat × Bool × Nat × Nat × Nat × Nat
def xms : List xM := [(yX0_leavesOf, cX0_leavesOf, 2, (Option.some Jvm.ClassFile.FieldType.int), 2, 0, true, 428, 427, 0, 93),
  (yX0_with, cX0_with, 3, (Option.some Jvm.ClassFile.FieldType.int), 3, 0, true, 400, 399, 0, 93),
  (yX0_sum, cX0_sum, 3, (Option.some Jvm.ClassFile.FieldType.int), 1, 0, true, 490, 489, 0, 93),
  (yX0_evenLead, cX0_evenLead, 3, (Option.some Jvm.ClassFile.FieldType.int), 1, 0, true, 721, 720, 0, 93),
  (yX0_bareOnes, cX0_bareOnes, 3, (Option.some Jvm.ClassFile.FieldType.int), 1, 0, true, 595, 594, 0, 93),
  (yX0_leavesLater, cX0_leavesLater, 4, (Option.some Jvm.ClassFile.FieldType.int), 3, 0, true, 523, 522, 0, 93),
  (yX1_init, cX1_init, 1, (Option.none : Option Jvm.ClassFile.FieldType), 1, 1, false, 151, 150, 0, 85),
  (yX1_begin, cX1_begin, 2, (Option.none : Option Jvm.ClassFile.FieldType), 2, 1, false, 237, 235, 236, 85),
  (yX1_hasRoom, cX1_hasRoom, 2, (Option.some Jvm.ClassFile.FieldType.boolean), 2, 1, false, 510, 508, 509, 85),
  (yX1_add, cX1_add, 4, (Option.none : Option Jvm.ClassFile.FieldType), 4, 1, false, 534, 532, 533, 85),
  (yX1_boughsNow, cX1_boughsNow, 1, (Option.some Jvm.ClassFile.FieldType.int), 1, 1, false, 425, 423, 424, 85),
  (yX1_toldNow, cX1_toldNow, 1, (Option.some Jvm.ClassFile.FieldType.int), 1, 1, false, 436, 434, 435, 85),
  (yX1_morningNow, cX1_morningNow, 1, (Option.some Jvm.ClassFile.FieldType.int), 1, 1, false, 530, 528, 529, 85),
  (yX1_become, cX1_become, 2, (Option.none : Option Jvm.ClassFile.FieldType), 2, 1, false, 578, 576, 577, 85),
  (yX2_init, cX2_init, 1, (Option.none : Option Jvm.ClassFile.FieldType), 1, 2, false, 172, 171, 0, 86),
  (yX2_clear, cX2_clear, 1, (Option.none : Option Jvm.ClassFile.FieldType), 1, 2, false, 384, 382, 383, 86),
  (yX2_add, cX2_add, 4, (Option.none : Option Jvm.ClassFile.FieldType), 4, 2, false, 413, 411, 412, 86),
  (yX2_all, cX2_all, 1, (Option.some Jvm.ClassFile.FieldType.int), 1, 2, false, 483, 481, 482, 86),
  (yX2_goods, cX2_goods, 3, (Option.some Jvm.ClassFile.FieldType.int), 1, 2, false, 495, 493, 494, 86),
  (yX2_deathsOf, cX2_deathsOf, 4, (Option.some Jvm.ClassFile.FieldType.int), 2, 2, false, 432, 430, 431, 86),
  (yX2_worthOf, cX2_worthOf, 4, (Option.some Jvm.ClassFile.FieldType.int), 2, 2, false, 707, 705, 706, 86),
  (yX2_canTell, cX2_canTell, 3, (Option.some Jvm.ClassFile.FieldType.boolean), 3, 2, false, 455, 453, 454, 86),
  (yX2_tellable, cX2_tellable, 4, (Option.some Jvm.ClassFile.FieldType.int), 2, 2, false, 775, 773, 774, 86),
  (yX2_haunting, cX2_haunting, 5, (Option.some Jvm.ClassFile.FieldType.int), 3, 2, false, 440, 438, 439, 86),
  (yX2_answerOf, cX2_answerOf, 3, (Option.some Jvm.ClassFile.FieldType.int), 3, 2, false, 464, 462, 463, 86),
  (yX2_boughsTold, cX2_boughsTold, 3, (Option.some Jvm.ClassFile.FieldType.int), 3, 2, false, 547, 545, 546, 86),
  (yX2_boughsLater, cX2_boughsLater, 7, (Option.some Jvm.ClassFile.FieldType.int), 4, 2, false, 518, 516, 517, 86),
  (yX3_ofLetter, cX3_ofLetter, 2, (Option.some Jvm.ClassFile.FieldType.int), 1, 3, true, 407, 406, 0, 94),
  (yX3_isOf, cX3_isOf, 2, (Option.some Jvm.ClassFile.FieldType.boolean), 2, 3, true, 479, 478, 0, 94),
  (yX3_haunt, cX3_haunt, 1, (Option.some Jvm.ClassFile.FieldType.int), 1, 3, true, 443, 442, 0, 94),
  (yX3_answer, cX3_answer, 3, (Option.some Jvm.ClassFile.FieldType.int), 3, 3, true, 467, 466, 0, 94),
  (yX3_goodAnswer, cX3_goodAnswer, 2, (Option.some Jvm.ClassFile.FieldType.int), 2, 3, true, 470, 469, 0, 94),
  (yX4_init, cX4_init, 1, (Option.none : Option Jvm.ClassFile.FieldType), 1, 4, false, 125, 124, 0, 84),
  (yX4_findMost, cX4_findMost, 5, (Option.some Jvm.ClassFile.FieldType.int), 5, 4, false, 608, 606, 607, 84),
  (yX4_tryOrders, cX4_tryOrders, 7, (Option.none : Option Jvm.ClassFile.FieldType), 6, 4, false, 612, 611, 16, 84),
  (yX4_aimAt, cX4_aimAt, 3, (Option.none : Option Jvm.ClassFile.FieldType), 3, 4, false, 633, 631, 632, 84),
  (yX4_findFewest, cX4_findFewest, 5, (Option.some Jvm.ClassFile.FieldType.int), 4, 4, false, 637, 635, 636, 84),
  (yX4_reachesAim, cX4_reachesAim, 7, (Option.some Jvm.ClassFile.FieldType.boolean), 6, 4, false, 641, 640, 18, 84),
  (yX4_takeTried, cX4_takeTried, 2, (Option.none : Option Jvm.ClassFile.FieldType), 2, 4, false, 617, 616, 17, 84),
  (yX4_layInto, cX4_layInto, 2, (Option.none : Option Jvm.ClassFile.FieldType), 2, 4, false, 624, 622, 623, 84),
  (yX5_init, cX5_init, 1, (Option.none : Option Jvm.ClassFile.FieldType), 1, 5, false, 112, 111, 0, 83),
  (yX5_read, cX5_read, 4, (Option.some Jvm.ClassFile.FieldType.int), 3, 5, false, 380, 378, 379, 83),
  (yX5_skipBlanks, cX5_skipBlanks, 2, (Option.none : Option Jvm.ClassFile.FieldType), 2, 5, false, 388, 387, 5, 83),
  (yX5_readBoughs, cX5_readBoughs, 4, (Option.none : Option Jvm.ClassFile.FieldType), 3, 5, false, 392, 391, 6, 83),
  (yX5_readDeath, cX5_readDeath, 6, (Option.none : Option Jvm.ClassFile.FieldType), 3, 5, false, 404, 403, 8, 83),
  (yX5_readFigure, cX5_readFigure, 4, (Option.some Jvm.ClassFile.FieldType.int), 3, 5, false, 396, 395, 7, 83),
  (yX6_init, cX6_init, 1, (Option.none : Option Jvm.ClassFile.FieldType), 1, 6, false, 205, 204, 0, 87),
  (yX6_isMissing, cX6_isMissing, 1, (Option.some Jvm.ClassFile.FieldType.boolean), 1, 6, false, 320, 318, 319, 87),
  (yX6_begin, cX6_begin, 2, (Option.none : Option Jvm.ClassFile.FieldType), 2, 6, false, 295, 293, 294, 87),
  (yX6_hasRun, cX6_hasRun, 3, (Option.some Jvm.ClassFile.FieldType.boolean), 3, 6, false, 340, 338, 339, 87),
  (yX6_holdsLeavesAlone, cX6_holdsLeavesAlone, 2, (Option.some Jvm.ClassFile.FieldType.boolean), 1, 6, false, 654, 652, 653, 87),
  (yX6_digestOnto, cX6_digestOnto, 4, (Option.some Jvm.ClassFile.FieldType.long), 2, 6, false, 807, 805, 806, 87),
  (yX7_init, cX7_init, 1, (Option.none : Option Jvm.ClassFile.FieldType), 1, 7, false, 220, 219, 0, 88),
  (yX7_isMissing, cX7_isMissing, 1, (Option.some Jvm.ClassFile.FieldType.boolean), 1, 7, false, 372, 370, 371, 88),
  (yX7_begin, cX7_begin, 2, (Option.none : Option Jvm.ClassFile.FieldType), 2, 7, false, 355, 353, 354, 88),
  (yX7_digestOnto, cX7_digestOnto, 4, (Option.some Jvm.ClassFile.FieldType.long), 2, 7, false, 812, 810, 811, 88),
  (yX8_init, cX8_init, 2, (Option.none : Option Jvm.ClassFile.FieldType), 1, 8, false, 100, 99, 0, 82),
  (yX8_row, cX8_row, 3, (Option.some Jvm.ClassFile.FieldType.int), 3, 8, false, 284, 282, 283, 82),
  (yX8_lay, cX8_lay, 6, (Option.some Jvm.ClassFile.FieldType.int), 4, 8, false, 308, 306, 307, 82),
  (yX8_at, cX8_at, 4, (Option.some Jvm.ClassFile.FieldType.int), 3, 8, false, 328, 326, 327, 82),
  (yX8_tear, cX8_tear, 3, (Option.some Jvm.ClassFile.FieldType.int), 2, 8, false, 332, 330, 331, 82),
  (yX8_copy, cX8_copy, 8, (Option.some Jvm.ClassFile.FieldType.int), 6, 8, false, 336, 334, 335, 82),
  (yX8_mean, cX8_mean, 7, (Option.some Jvm.ClassFile.FieldType.int), 2, 8, false, 347, 345, 346, 82),
  (yX8_text, cX8_text, 3, (Option.some Jvm.ClassFile.FieldType.int), 3, 8, false, 351, 349, 350, 82),
  (yX8_put, cX8_put, 7, (Option.some Jvm.ClassFile.FieldType.int), 4, 8, false, 364, 362, 363, 82),
  (yX8_fault, cX8_fault, 3, (Option.some Jvm.ClassFile.FieldType.int), 2, 8, false, 376, 374, 375, 82),
  (yX8_green, cX8_green, 5, (Option.some Jvm.ClassFile.FieldType.int), 2, 8, false, 417, 415, 416, 82),
  (yX8_bough, cX8_bough, 3, (Option.some Jvm.ClassFile.FieldType.int), 3, 8, false, 421, 419, 420, 82),
  (yX8_death, cX8_death, 3, (Option.some Jvm.ClassFile.FieldType.int), 3, 8, false, 447, 445, 446, 82),
  (yX8_mark, cX8_mark, 4, (Option.some Jvm.ClassFile.FieldType.int), 3, 8, false, 476, 474, 475, 82),
  (yX8_morning, cX8_morning, 1, (Option.some Jvm.ClassFile.FieldType.int), 1, 8, false, 506, 504, 505, 82),
  (yX8_tell, cX8_tell, 2, (Option.some Jvm.ClassFile.FieldType.int), 2, 8, false, 539, 537, 538, 82),
  (yX8_water, cX8_water, 3, (Option.some Jvm.ClassFile.FieldType.int), 3, 8, false, 552, 550, 551, 82),
  (yX8_prune, cX8_prune, 3, (Option.some Jvm.ClassFile.FieldType.int), 2, 8, false, 562, 560, 561, 82),
  (yX8_undo, cX8_undo, 3, (Option.some Jvm.ClassFile.FieldType.int), 2, 8, false, 570, 568, 569, 82),
  (yX8_keep, cX8_keep, 2, (Option.some Jvm.ClassFile.FieldType.int), 2, 8, false, 574, 572, 573, 82),
  (yX8_on, cX8_on, 2, (Option.some Jvm.ClassFile.FieldType.int), 2, 8, false, 583, 581, 582, 82),
  (yX8_answers, cX8_answers, 4, (Option.some Jvm.ClassFile.FieldType.int), 4, 8, false, 587, 585, 586, 82),
  (yX8_leaves, cX8_leaves, 3, (Option.some Jvm.ClassFile.FieldType.int), 2, 8, false, 592, 590, 591, 82),
  (yX8_bare, cX8_bare, 5, (Option.some Jvm.ClassFile.FieldType.int), 2, 8, false, 599, 597, 598, 82),
  (yX8_round, cX8_round, 4, (Option.some Jvm.ClassFile.FieldType.int), 3, 8, false, 604, 602, 603, 82),
  (yX8_plan, cX8_plan, 5, (Option.some Jvm.ClassFile.FieldType.int), 4, 8, false, 629, 627, 628, 82),
  (yX8_about, cX8_about, 7, (Option.some Jvm.ClassFile.FieldType.int), 3, 8, false, 646, 644, 645, 82),
  (yX8_sure, cX8_sure, 7, (Option.some Jvm.ClassFile.FieldType.int), 3, 8, false, 670, 668, 669, 82),
  (yX8_next, cX8_next, 8, (Option.some Jvm.ClassFile.FieldType.int), 3, 8, false, 674, 672, 673, 82),
  (yX8_worths, cX8_worths, 6, (Option.some Jvm.ClassFile.FieldType.int), 3, 8, false, 684, 682, 683, 82),
  (yX8_kinds, cX8_kinds, 6, (Option.some Jvm.ClassFile.FieldType.int), 3, 8, false, 695, 693, 694, 82),
  (yX8_sets, cX8_sets, 6, (Option.some Jvm.ClassFile.FieldType.int), 2, 8, false, 699, 697, 698, 82),
  (yX8_surely, cX8_surely, 7, (Option.some Jvm.ClassFile.FieldType.int), 2, 8, false, 711, 709, 710, 82),
  (yX8_duel, cX8_duel, 2, (Option.some Jvm.ClassFile.FieldType.int), 2, 8, false, 715, 713, 714, 82),
  (yX8_odds, cX8_odds, 8, (Option.some Jvm.ClassFile.FieldType.int), 4, 8, false, 725, 723, 724, 82),
  (yX8_mid, cX8_mid, 6, (Option.some Jvm.ClassFile.FieldType.int), 2, 8, false, 740, 738, 739, 82),
  (yX8_lots, cX8_lots, 6, (Option.some Jvm.ClassFile.FieldType.int), 3, 8, false, 744, 742, 743, 82),
  (yX8_asked, cX8_asked, 1, (Option.some Jvm.ClassFile.FieldType.int), 1, 8, false, 759, 757, 758, 82),
  (yX8_upper, cX8_upper, 1, (Option.some Jvm.ClassFile.FieldType.long), 1, 8, false, 763, 761, 762, 82),
  (yX8_lower, cX8_lower, 1, (Option.some Jvm.ClassFile.FieldType.long), 1, 8, false, 767, 765, 766, 82),
  (yX8_count, cX8_count, 2, (Option.some Jvm.ClassFile.FieldType.int), 2, 8, false, 771, 769, 770, 82),
  (yX8_finding, cX8_finding, 1, (Option.some Jvm.ClassFile.FieldType.int), 1, 8, false, 792, 790, 791, 82),
  (yX8_findings, cX8_findings, 2, (Option.some Jvm.ClassFile.FieldType.int), 2, 8, false, 796, 794, 795, 82),
  (yX8_digest, cX8_digest, 5, (Option.some Jvm.ClassFile.FieldType.long), 1, 8, false, 800, 798, 799, 82),
  (yX8_isWithin, cX8_isWithin, 2, (Option.some Jvm.ClassFile.FieldType.boolean), 2, 8, true, 287, 286, 0, 82),
  (yX8_find, cX8_find, 2, (Option.some Jvm.ClassFile.FieldType.int), 2, 8, false, 291, 290, 0, 82),
  (yX8_say, cX8_say, 2, (Option.some Jvm.ClassFile.FieldType.int), 2, 8, false, 324, 323, 3, 82),
  (yX8_setRatio, cX8_setRatio, 7, (Option.none : Option Jvm.ClassFile.FieldType), 3, 8, false, 663, 662, 21, 82),
  (yX8_greatestDivisor, cX8_greatestDivisor, 7, (Option.some Jvm.ClassFile.FieldType.long), 2, 8, true, 666, 665, 0, 82),
  (yX8_power, cX8_power, 6, (Option.some Jvm.ClassFile.FieldType.long), 2, 8, true, 735, 734, 0, 82),
  (yX8_rowRefusal, cX8_rowRefusal, 2, (Option.some Jvm.ClassFile.FieldType.int), 2, 8, false, 316, 315, 2, 82),
  (yX8_placeRefusal, cX8_placeRefusal, 4, (Option.some Jvm.ClassFile.FieldType.int), 3, 8, false, 312, 311, 1, 82),
  (yX8_textRefusal, cX8_textRefusal, 2, (Option.some Jvm.ClassFile.FieldType.int), 2, 8, false, 368, 367, 4, 82),
  (yX8_watchRefusal, cX8_watchRefusal, 4, (Option.some Jvm.ClassFile.FieldType.int), 3, 8, false, 650, 649, 19, 82),
  (yX8_pairsRefusal, cX8_pairsRefusal, 4, (Option.some Jvm.ClassFile.FieldType.int), 3, 8, false, 688, 687, 23, 82),
  (yX8_worthRefusal, cX8_worthRefusal, 2, (Option.some Jvm.ClassFile.FieldType.int), 2, 8, false, 703, 702, 24, 82),
  (yX8_leavesAt, cX8_leavesAt, 2, (Option.some Jvm.ClassFile.FieldType.int), 2, 8, false, 460, 459, 10, 82),
  (yX8_factOf, cX8_factOf, 3, (Option.some Jvm.ClassFile.FieldType.int), 3, 8, false, 451, 450, 9, 82),
  (yX8_fewestForNine, cX8_fewestForNine, 3, (Option.some Jvm.ClassFile.FieldType.int), 2, 8, false, 487, 486, 11, 82),
  (yX8_rowsThere, cX8_rowsThere, 3, (Option.some Jvm.ClassFile.FieldType.int), 1, 8, false, 780, 779, 28, 82),
  (yX8_textsThere, cX8_textsThere, 3, (Option.some Jvm.ClassFile.FieldType.int), 1, 8, false, 784, 783, 29, 82),
  (yX8_keptThere, cX8_keptThere, 3, (Option.some Jvm.ClassFile.FieldType.int), 1, 8, false, 788, 787, 30, 82),
  (yX8_doMorning, cX8_doMorning, 2, (Option.none : Option Jvm.ClassFile.FieldType), 1, 8, false, 514, 513, 12, 82),
  (yX8_doTelling, cX8_doTelling, 2, (Option.none : Option Jvm.ClassFile.FieldType), 2, 8, false, 543, 542, 13, 82),
  (yX8_doWatering, cX8_doWatering, 4, (Option.none : Option Jvm.ClassFile.FieldType), 3, 8, false, 556, 555, 14, 82),
  (yX8_doPruning, cX8_doPruning, 2, (Option.none : Option Jvm.ClassFile.FieldType), 2, 8, false, 566, 565, 15, 82),
  (yX8_doNothing, cX8_doNothing, 1, (Option.none : Option Jvm.ClassFile.FieldType), 1, 8, false, 755, 754, 27, 82),
  (yX8_doByLot, cX8_doByLot, 5, (Option.none : Option Jvm.ClassFile.FieldType), 2, 8, false, 751, 750, 26, 82),
  (yX8_fitsWatch, cX8_fitsWatch, 7, (Option.some Jvm.ClassFile.FieldType.boolean), 4, 8, false, 659, 658, 20, 82),
  (yX8_greatestPart, cX8_greatestPart, 8, (Option.some Jvm.ClassFile.FieldType.int), 4, 8, false, 678, 677, 22, 82),
  (yX8_fitsPairs, cX8_fitsPairs, 4, (Option.some Jvm.ClassFile.FieldType.boolean), 3, 8, true, 691, 690, 0, 82),
  (yX8_leadAfter, cX8_leadAfter, 8, (Option.some Jvm.ClassFile.FieldType.int), 4, 8, true, 718, 717, 0, 82),
  (yX8_boughsIfTold, cX8_boughsIfTold, 5, (Option.some Jvm.ClassFile.FieldType.int), 2, 8, false, 729, 728, 25, 82),
  (yX8_weightOf, cX8_weightOf, 4, (Option.some Jvm.ClassFile.FieldType.long), 3, 8, true, 732, 731, 0, 82),
  (yX9_init, cX9_init, 2, (Option.none : Option Jvm.ClassFile.FieldType), 1, 9, false, 818, 817, 0, 89),
  (yX9_in, cX9_in, 6, (Option.some Jvm.ClassFile.FieldType.boolean), 3, 9, true, 907, 906, 0, 89),
  (yX9_has, cX9_has, 2, (Option.some Jvm.ClassFile.FieldType.boolean), 2, 9, true, 1002, 1001, 0, 89),
  (yX9_ones, cX9_ones, 3, (Option.some Jvm.ClassFile.FieldType.int), 1, 9, true, 1069, 1068, 0, 89),
  (yX9_finds, cX9_finds, 2, (Option.some Jvm.ClassFile.FieldType.int), 2, 9, false, 911, 910, 31, 89),
  (yX9_tells, cX9_tells, 2, (Option.some Jvm.ClassFile.FieldType.int), 2, 9, false, 919, 918, 32, 89),
  (yX9_tellsPart, cX9_tellsPart, 11, (Option.some Jvm.ClassFile.FieldType.int), 3, 9, false, 1248, 1247, 73, 89),
  (yX9_bring, cX9_bring, 4, (Option.none : Option Jvm.ClassFile.FieldType), 3, 9, false, 1118, 1117, 57, 89),
  (yX9_isRow, cX9_isRow, 1, (Option.some Jvm.ClassFile.FieldType.boolean), 1, 9, true, 903, 902, 0, 89),
  (yX9_isText, cX9_isText, 1, (Option.some Jvm.ClassFile.FieldType.boolean), 1, 9, true, 942, 941, 0, 89),
  (yX9_isDeath, cX9_isDeath, 2, (Option.some Jvm.ClassFile.FieldType.boolean), 2, 9, false, 1013, 1012, 41, 89),
  (yX9_isBough, cX9_isBough, 1, (Option.some Jvm.ClassFile.FieldType.boolean), 1, 9, true, 989, 988, 0, 89),
  (yX9_row, cX9_row, 4, (Option.some Jvm.ClassFile.FieldType.int), 3, 9, false, 900, 898, 899, 89),
  (yX9_lay, cX9_lay, 5, (Option.some Jvm.ClassFile.FieldType.int), 4, 9, false, 915, 913, 914, 89),
  (yX9_at, cX9_at, 3, (Option.some Jvm.ClassFile.FieldType.int), 3, 9, false, 923, 921, 922, 89),
  (yX9_tear, cX9_tear, 2, (Option.some Jvm.ClassFile.FieldType.int), 2, 9, false, 927, 925, 926, 89),
  (yX9_copy, cX9_copy, 7, (Option.some Jvm.ClassFile.FieldType.int), 6, 9, false, 931, 929, 930, 89),
  (yX9_mean, cX9_mean, 5, (Option.some Jvm.ClassFile.FieldType.int), 2, 9, false, 935, 933, 934, 89),
  (yX9_text, cX9_text, 4, (Option.some Jvm.ClassFile.FieldType.int), 3, 9, false, 939, 937, 938, 89),
  (yX9_put, cX9_put, 5, (Option.some Jvm.ClassFile.FieldType.int), 4, 9, false, 947, 945, 946, 89),
  (yX9_here, cX9_here, 1, (Option.some Jvm.ClassFile.FieldType.int), 1, 9, false, 963, 962, 35, 89),
  (yX9_kindOf, cX9_kindOf, 1, (Option.some Jvm.ClassFile.FieldType.int), 1, 9, true, 978, 977, 0, 89),
  (yX9_takes, cX9_takes, 4, (Option.some Jvm.ClassFile.FieldType.boolean), 3, 9, false, 971, 970, 37, 89),
  (yX9_takesTree, cX9_takesTree, 3, (Option.some Jvm.ClassFile.FieldType.boolean), 1, 9, false, 967, 966, 36, 89),
  (yX9_takesDeath, cX9_takesDeath, 3, (Option.some Jvm.ClassFile.FieldType.boolean), 1, 9, false, 975, 974, 38, 89),
  (yX9_blanks, cX9_blanks, 1, (Option.none : Option Jvm.ClassFile.FieldType), 1, 9, false, 959, 958, 34, 89),
  (yX9_faultOf, cX9_faultOf, 3, (Option.some Jvm.ClassFile.FieldType.int), 2, 9, false, 955, 954, 33, 89),
  (yX9_fault, cX9_fault, 2, (Option.some Jvm.ClassFile.FieldType.int), 2, 9, false, 951, 949, 950, 89),
  (yX9_green, cX9_green, 3, (Option.some Jvm.ClassFile.FieldType.int), 2, 9, false, 982, 980, 981, 89),
  (yX9_isA, cX9_isA, 2, (Option.some Jvm.ClassFile.FieldType.boolean), 2, 9, true, 1046, 1045, 0, 89),
  (yX9_good, cX9_good, 3, (Option.some Jvm.ClassFile.FieldType.int), 2, 9, true, 1039, 1038, 0, 89),
  (yX9_toldBy, cX9_toldBy, 3, (Option.some Jvm.ClassFile.FieldType.int), 3, 9, true, 1036, 1035, 0, 89),
  (yX9_toldOf, cX9_toldOf, 3, (Option.some Jvm.ClassFile.FieldType.int), 3, 9, false, 1033, 1032, 46, 89),
  (yX9_all, cX9_all, 1, (Option.some Jvm.ClassFile.FieldType.int), 1, 9, false, 1029, 1028, 45, 89),
  (yX9_kings, cX9_kings, 3, (Option.some Jvm.ClassFile.FieldType.int), 1, 9, false, 1025, 1024, 44, 89),
  (yX9_canBe, cX9_canBe, 3, (Option.some Jvm.ClassFile.FieldType.boolean), 3, 9, false, 1021, 1020, 43, 89),
  (yX9_haunting, cX9_haunting, 1, (Option.some Jvm.ClassFile.FieldType.int), 1, 9, true, 1005, 1004, 0, 89),
  (yX9_haunted, cX9_haunted, 5, (Option.some Jvm.ClassFile.FieldType.int), 3, 9, false, 999, 998, 40, 89),
  (yX9_tries, cX9_tries, 2, (Option.none : Option Jvm.ClassFile.FieldType), 1, 9, false, 1058, 1057, 49, 89),
  (yX9_greens, cX9_greens, 5, (Option.none : Option Jvm.ClassFile.FieldType), 2, 9, false, 1085, 1084, 54, 89),
  (yX9_leafAll, cX9_leafAll, 3, (Option.some Jvm.ClassFile.FieldType.int), 1, 9, false, 1062, 1061, 50, 89),
  (yX9_leavesNow, cX9_leavesNow, 1, (Option.some Jvm.ClassFile.FieldType.int), 1, 9, false, 1054, 1053, 48, 89),
  (yX9_deathsOf, cX9_deathsOf, 4, (Option.some Jvm.ClassFile.FieldType.int), 2, 9, false, 995, 994, 39, 89),
  (yX9_bough, cX9_bough, 3, (Option.some Jvm.ClassFile.FieldType.int), 3, 9, false, 986, 984, 985, 89),
  (yX9_deathOf, cX9_deathOf, 3, (Option.some Jvm.ClassFile.FieldType.int), 3, 9, false, 1017, 1016, 42, 89),
  (yX9_death, cX9_death, 3, (Option.some Jvm.ClassFile.FieldType.int), 3, 9, false, 1009, 1007, 1008, 89),
  (yX9_fewestFor9, cX9_fewestFor9, 3, (Option.some Jvm.ClassFile.FieldType.int), 2, 9, false, 1050, 1049, 47, 89),
  (yX9_goodsAbout, cX9_goodsAbout, 3, (Option.some Jvm.ClassFile.FieldType.int), 1, 9, false, 1066, 1065, 51, 89),
  (yX9_mark, cX9_mark, 4, (Option.some Jvm.ClassFile.FieldType.int), 3, 9, false, 1043, 1041, 1042, 89),
  (yX9_minds, cX9_minds, 3, (Option.none : Option Jvm.ClassFile.FieldType), 1, 9, false, 1077, 1076, 52, 89),
  (yX9_passes, cX9_passes, 2, (Option.none : Option Jvm.ClassFile.FieldType), 1, 9, false, 1081, 1080, 53, 89),
  (yX9_morning, cX9_morning, 1, (Option.some Jvm.ClassFile.FieldType.int), 1, 9, false, 1073, 1071, 1072, 89),
  (yX9_toldNow, cX9_toldNow, 3, (Option.none : Option Jvm.ClassFile.FieldType), 2, 9, false, 1093, 1092, 55, 89),
  (yX9_tell, cX9_tell, 2, (Option.some Jvm.ClassFile.FieldType.int), 2, 9, false, 1089, 1087, 1088, 89),
  (yX9_waters, cX9_waters, 3, (Option.none : Option Jvm.ClassFile.FieldType), 3, 9, false, 1102, 1101, 56, 89),
  (yX9_water, cX9_water, 3, (Option.some Jvm.ClassFile.FieldType.int), 3, 9, false, 1097, 1095, 1096, 89),
  (yX9_prune, cX9_prune, 3, (Option.some Jvm.ClassFile.FieldType.int), 2, 9, false, 1106, 1104, 1105, 89),
  (yX9_undo, cX9_undo, 5, (Option.some Jvm.ClassFile.FieldType.int), 2, 9, false, 1110, 1108, 1109, 89),
  (yX9_keep, cX9_keep, 2, (Option.some Jvm.ClassFile.FieldType.int), 2, 9, false, 1114, 1112, 1113, 89),
  (yX9_on, cX9_on, 2, (Option.some Jvm.ClassFile.FieldType.int), 2, 9, false, 1122, 1120, 1121, 89),
  (yX9_answers, cX9_answers, 4, (Option.some Jvm.ClassFile.FieldType.int), 4, 9, false, 1126, 1124, 1125, 89),
  (yX9_leaves, cX9_leaves, 4, (Option.some Jvm.ClassFile.FieldType.int), 2, 9, false, 1130, 1128, 1129, 89),
  (yX9_bare, cX9_bare, 3, (Option.some Jvm.ClassFile.FieldType.int), 2, 9, false, 1135, 1133, 1134, 89),
  (yX9_tellsOrder, cX9_tellsOrder, 5, (Option.some Jvm.ClassFile.FieldType.int), 2, 9, false, 1143, 1142, 58, 89),
  (yX9_keepsOrder, cX9_keepsOrder, 3, (Option.none : Option Jvm.ClassFile.FieldType), 2, 9, false, 1147, 1146, 59, 89),
  (yX9_laysOrder, cX9_laysOrder, 4, (Option.none : Option Jvm.ClassFile.FieldType), 3, 9, false, 1151, 1150, 60, 89),
  (yX9_round, cX9_round, 8, (Option.some Jvm.ClassFile.FieldType.int), 3, 9, false, 1139, 1137, 1138, 89),
  (yX9_plans, cX9_plans, 7, (Option.some Jvm.ClassFile.FieldType.boolean), 4, 9, false, 1159, 1158, 61, 89),
  (yX9_plan, cX9_plan, 5, (Option.some Jvm.ClassFile.FieldType.int), 4, 9, false, 1155, 1153, 1154, 89),
  (yX9_againstLeaves, cX9_againstLeaves, 3, (Option.some Jvm.ClassFile.FieldType.int), 3, 9, false, 1167, 1166, 62, 89),
  (yX9_areFigures, cX9_areFigures, 4, (Option.some Jvm.ClassFile.FieldType.boolean), 2, 9, false, 1172, 1171, 63, 89),
  (yX9_laysFits, cX9_laysFits, 8, (Option.some Jvm.ClassFile.FieldType.int), 4, 9, false, 1176, 1175, 64, 89),
  (yX9_about, cX9_about, 7, (Option.some Jvm.ClassFile.FieldType.int), 3, 9, false, 1163, 1161, 1162, 89),
  (yX9_sure, cX9_sure, 7, (Option.some Jvm.ClassFile.FieldType.int), 3, 9, false, 1180, 1178, 1179, 89),
  (yX9_next, cX9_next, 12, (Option.some Jvm.ClassFile.FieldType.int), 3, 9, false, 1184, 1182, 1183, 89),
  (yX9_againstPairs, cX9_againstPairs, 3, (Option.some Jvm.ClassFile.FieldType.int), 3, 9, false, 1193, 1192, 65, 89),
  (yX9_answersSo, cX9_answersSo, 6, (Option.some Jvm.ClassFile.FieldType.boolean), 4, 9, false, 1197, 1196, 66, 89),
  (yX9_worths, cX9_worths, 6, (Option.some Jvm.ClassFile.FieldType.int), 3, 9, false, 1189, 1187, 1188, 89),
  (yX9_kinds, cX9_kinds, 6, (Option.some Jvm.ClassFile.FieldType.int), 3, 9, false, 1201, 1199, 1200, 89),
  (yX9_worthOf, cX9_worthOf, 4, (Option.some Jvm.ClassFile.FieldType.int), 2, 9, false, 1210, 1209, 67, 89),
  (yX9_sets, cX9_sets, 5, (Option.some Jvm.ClassFile.FieldType.int), 2, 9, false, 1205, 1203, 1204, 89),
  (yX9_surely, cX9_surely, 6, (Option.some Jvm.ClassFile.FieldType.int), 2, 9, false, 1214, 1212, 1213, 89),
  (yX9_evensMore, cX9_evensMore, 3, (Option.some Jvm.ClassFile.FieldType.int), 1, 9, false, 1230, 1229, 70, 89),
  (yX9_tellsTurns, cX9_tellsTurns, 6, (Option.some Jvm.ClassFile.FieldType.int), 2, 9, false, 1226, 1225, 69, 89),
  (yX9_playsOut, cX9_playsOut, 9, (Option.some Jvm.ClassFile.FieldType.int), 2, 9, false, 1222, 1221, 68, 89),
  (yX9_duel, cX9_duel, 2, (Option.some Jvm.ClassFile.FieldType.int), 2, 9, false, 1218, 1216, 1217, 89),
  (yX9_chancesOf, cX9_chancesOf, 8, (Option.some Jvm.ClassFile.FieldType.long), 3, 9, false, 1240, 1239, 71, 89),
  (yX9_down, cX9_down, 4, (Option.some Jvm.ClassFile.FieldType.long), 1, 9, false, 1244, 1243, 72, 89),
  (yX9_odds, cX9_odds, 9, (Option.some Jvm.ClassFile.FieldType.int), 4, 9, false, 1235, 1233, 1234, 89),
  (yX9_mid, cX9_mid, 7, (Option.some Jvm.ClassFile.FieldType.int), 2, 9, false, 1252, 1250, 1251, 89),
  (yX9_lots, cX9_lots, 9, (Option.some Jvm.ClassFile.FieldType.int), 3, 9, false, 1256, 1254, 1255, 89),
  (yX9_asked, cX9_asked, 1, (Option.some Jvm.ClassFile.FieldType.int), 1, 9, false, 1266, 1264, 1265, 89),
  (yX9_upper, cX9_upper, 1, (Option.some Jvm.ClassFile.FieldType.long), 1, 9, false, 1270, 1268, 1269, 89),
  (yX9_lower, cX9_lower, 1, (Option.some Jvm.ClassFile.FieldType.long), 1, 9, false, 1274, 1272, 1273, 89),
  (yX9_rowsThere, cX9_rowsThere, 3, (Option.some Jvm.ClassFile.FieldType.int), 1, 9, false, 1294, 1293, 77, 89),
  (yX9_textsThere, cX9_textsThere, 3, (Option.some Jvm.ClassFile.FieldType.int), 1, 9, false, 1298, 1297, 78, 89),
  (yX9_greensKept, cX9_greensKept, 3, (Option.some Jvm.ClassFile.FieldType.int), 1, 9, false, 1302, 1301, 79, 89),
  (yX9_canNow, cX9_canNow, 3, (Option.some Jvm.ClassFile.FieldType.int), 1, 9, false, 1282, 1281, 74, 89),
  (yX9_bareNow, cX9_bareNow, 3, (Option.some Jvm.ClassFile.FieldType.int), 1, 9, false, 1286, 1285, 75, 89),
  (yX9_goods, cX9_goods, 3, (Option.some Jvm.ClassFile.FieldType.int), 1, 9, false, 1290, 1289, 76, 89),
  (yX9_count, cX9_count, 2, (Option.some Jvm.ClassFile.FieldType.int), 2, 9, false, 1278, 1276, 1277, 89),
  (yX9_finding, cX9_finding, 1, (Option.some Jvm.ClassFile.FieldType.int), 1, 9, false, 1306, 1304, 1305, 89),
  (yX9_findings, cX9_findings, 2, (Option.some Jvm.ClassFile.FieldType.int), 2, 9, false, 1310, 1308, 1309, 89),
  (yX9_mix, cX9_mix, 3, (Option.none : Option Jvm.ClassFile.FieldType), 2, 9, false, 1320, 1319, 80, 89),
  (yX9_digest, cX9_digest, 3, (Option.some Jvm.ClassFile.FieldType.long), 1, 9, false, 1314, 1312, 1313, 89),
  (yJ6_bitCount_0f7a4, cJ6_bitCount_0f7a4, 1, (Option.some Jvm.ClassFile.FieldType.int), 1, 99, true, 499, 498, 0, 95),
  (yJ9_max_7cf53, cJ9_max_7cf53, 2, (Option.some Jvm.ClassFile.FieldType.int), 2, 99, true, 301, 300, 0, 90),
  (yJ9_min_7cf53, cJ9_min_7cf53, 2, (Option.some Jvm.ClassFile.FieldType.int), 2, 99, true, 298, 297, 0, 90),
  (yJ7_fill_53178, cJ7_fill_53178, 4, (Option.none : Option Jvm.ClassFile.FieldType), 2, 99, true, 304, 303, 0, 91),
  (yJ7_fill_031fb, cJ7_fill_031fb, 4, (Option.none : Option Jvm.ClassFile.FieldType), 2, 99, true, 360, 359, 0, 91),
  (yL_law, cL_law, 4, (Option.some Jvm.ClassFile.FieldType.boolean), 1, 99, true, 0, 0, 0, 81)]
/-- an instruction: it, its length, the place of its word, what it links (numbers) -/
abbrev xE : Type := Instr × Nat × Nat × Nat × Nat × Nat × Nat × Int
abbrev xT : Type := List (Nat × List (Nat × xE))
