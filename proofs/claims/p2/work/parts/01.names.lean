def RX0 : String := "GrinCoder$Document"
def TX0 : u_T := fun k => match k with
  | 0 => ("GrinCoder$Document", "kinds", "[I", true)
  | 1 => ("GrinCoder$Document", "starts", "[I", true)
  | 2 => ("GrinCoder$Document", "lengths", "[I", true)
  | 3 => ("GrinCoder$Document", "depths", "[I", true)
  | 4 => ("GrinCoder$Document", "numbers", "[J", true)
  | 5 => ("GrinCoder$Document", "bytes", "LGrinCoder$Row;", true)
  | 6 => ("GrinCoder$Document", "openKinds", "[I", true)
  | 7 => ("GrinCoder$Document", "size", "I", false)
  | 8 => ("GrinCoder$Document", "depth", "I", false)
  | _ => ("GrinCoder$Document", "named", "Z", false)
def tyX0 : Nat → FieldType := fun k => match k with
  | 0 => .array .int
  | 1 => .array .int
  | 2 => .array .int
  | 3 => .array .int
  | 4 => .array .long
  | 5 => .object "GrinCoder$Row"
  | 6 => .array .int
  | 7 => .int
  | 8 => .int
  | _ => .boolean
abbrev wsX00 : List Cond := u_ws RX0 TX0 10
theorem nmX0 : ∀ a, a < 10 → ∀ b, b < 10 → a ≠ b → (TX0 a).2.1 ≠ (TX0 b).2.1 := by decide +kernel
theorem tyX0_ok : ∀ k, k < 10 → parseFieldDescriptor (TX0 k).2.2.1 = some (tyX0 k) := by decide +kernel
abbrev cX0_init : ByteArray := prog_2_method_1_code
def yX0_init : MethodName := ⟨RX0, "<init>", "()V"⟩
abbrev cX0_size : ByteArray := prog_2_method_2_code
def yX0_size : MethodName := ⟨RX0, "size", "()I"⟩
abbrev cX0_textBytes : ByteArray := prog_2_method_3_code
def yX0_textBytes : MethodName := ⟨RX0, "textBytes", "()I"⟩
abbrev cX0_clear : ByteArray := prog_2_method_4_code
def yX0_clear : MethodName := ⟨RX0, "clear", "()V"⟩
abbrev cX0_isWhole : ByteArray := prog_2_method_5_code
def yX0_isWhole : MethodName := ⟨RX0, "isWhole", "()Z"⟩
abbrev cX0_innermost : ByteArray := prog_2_method_6_code
def yX0_innermost : MethodName := ⟨RX0, "innermost", "()I"⟩
abbrev cX0_accepts : ByteArray := prog_2_method_7_code
def yX0_accepts : MethodName := ⟨RX0, "accepts", "(I)Z"⟩
abbrev cX0_hasRoom : ByteArray := prog_2_method_8_code
def yX0_hasRoom : MethodName := ⟨RX0, "hasRoom", "(II)Z"⟩
abbrev cX0_put : ByteArray := prog_2_method_9_code
def yX0_put : MethodName := ⟨RX0, "put", "(IJ)V"⟩
abbrev cX0_extend : ByteArray := prog_2_method_10_code
def yX0_extend : MethodName := ⟨RX0, "extend", "(I)V"⟩
abbrev cX0_extendBy : ByteArray := prog_2_method_11_code
def yX0_extendBy : MethodName := ⟨RX0, "extendBy", "(LGrinCoder$Row;II)V"⟩
abbrev cX0_extendByTextOf : ByteArray := prog_2_method_12_code
def yX0_extendByTextOf : MethodName := ⟨RX0, "extendByTextOf", "(I)V"⟩
abbrev cX0_kindOf : ByteArray := prog_2_method_13_code
def yX0_kindOf : MethodName := ⟨RX0, "kindOf", "(I)I"⟩
abbrev cX0_lengthOf : ByteArray := prog_2_method_14_code
def yX0_lengthOf : MethodName := ⟨RX0, "lengthOf", "(I)I"⟩
abbrev cX0_depthOf : ByteArray := prog_2_method_15_code
def yX0_depthOf : MethodName := ⟨RX0, "depthOf", "(I)I"⟩
abbrev cX0_numberOf : ByteArray := prog_2_method_16_code
def yX0_numberOf : MethodName := ⟨RX0, "numberOf", "(I)J"⟩
abbrev cX0_textByte : ByteArray := prog_2_method_17_code
def yX0_textByte : MethodName := ⟨RX0, "textByte", "(II)I"⟩
abbrev cX0_copyText : ByteArray := prog_2_method_18_code
def yX0_copyText : MethodName := ⟨RX0, "copyText", "(ILGrinCoder$Row;)V"⟩
abbrev cX0_isAscii : ByteArray := prog_2_method_19_code
def yX0_isAscii : MethodName := ⟨RX0, "isAscii", "(I)Z"⟩
abbrev cX0_mixOf : ByteArray := prog_2_method_20_code
def yX0_mixOf : MethodName := ⟨RX0, "mixOf", "(I)I"⟩
abbrev cX0_haveSameText : ByteArray := prog_2_method_21_code
def yX0_haveSameText : MethodName := ⟨RX0, "haveSameText", "(II)Z"⟩
abbrev cX0_isSound : ByteArray := prog_2_method_22_code
def yX0_isSound : MethodName := ⟨RX0, "isSound", "()Z"⟩
abbrev cX0_has : ByteArray := prog_2_method_23_code
def yX0_has : MethodName := ⟨RX0, "has", "(I)Z"⟩
abbrev cX0_isContainer : ByteArray := prog_2_method_24_code
def yX0_isContainer : MethodName := ⟨RX0, "isContainer", "(I)Z"⟩
def RX1 : String := "GrinCoder$Reader"
def TX1 : u_T := fun k => match k with
  | 0 => ("GrinCoder$Reader", "names", "LGrinCoder$Table;", true)
  | 1 => ("GrinCoder$Reader", "texts", "LGrinCoder$Table;", true)
  | 2 => ("GrinCoder$Reader", "in", "LGrinCoder$Row;", false)
  | 3 => ("GrinCoder$Reader", "document", "LGrinCoder$Document;", false)
  | 4 => ("GrinCoder$Reader", "flags", "I", false)
  | 5 => ("GrinCoder$Reader", "at", "I", false)
  | 6 => ("GrinCoder$Reader", "fault", "I", false)
  | 7 => ("GrinCoder$Reader", "faultAt", "I", false)
  | 8 => ("GrinCoder$Reader", "first", "I", false)
  | 9 => ("GrinCoder$Reader", "kind", "I", false)
  | 10 => ("GrinCoder$Reader", "number", "J", false)
  | 11 => ("GrinCoder$Reader", "form", "I", false)
  | 12 => ("GrinCoder$Reader", "start", "I", false)
  | 13 => ("GrinCoder$Reader", "length", "I", false)
  | 14 => ("GrinCoder$Reader", "told", "I", false)
  | _ => ("GrinCoder$Reader", "over", "Z", false)
def tyX1 : Nat → FieldType := fun k => match k with
  | 0 => .object "GrinCoder$Table"
  | 1 => .object "GrinCoder$Table"
  | 2 => .object "GrinCoder$Row"
  | 3 => .object "GrinCoder$Document"
  | 4 => .int
  | 5 => .int
  | 6 => .int
  | 7 => .int
  | 8 => .int
  | 9 => .int
  | 10 => .long
  | 11 => .int
  | 12 => .int
  | 13 => .int
  | 14 => .int
  | _ => .boolean
abbrev wsX10 : List Cond := u_ws RX1 TX1 16
theorem nmX1 : ∀ a, a < 16 → ∀ b, b < 16 → a ≠ b → (TX1 a).2.1 ≠ (TX1 b).2.1 := by decide +kernel
theorem tyX1_ok : ∀ k, k < 16 → parseFieldDescriptor (TX1 k).2.2.1 = some (tyX1 k) := by decide +kernel
abbrev cX1_init : ByteArray := prog_3_method_1_code
def yX1_init : MethodName := ⟨RX1, "<init>", "(LGrinCoder$Table;LGrinCoder$Table;)V"⟩
abbrev cX1_faultPlace : ByteArray := prog_3_method_2_code
def yX1_faultPlace : MethodName := ⟨RX1, "faultPlace", "()I"⟩
abbrev cX1_decode : ByteArray := prog_3_method_3_code
def yX1_decode : MethodName := ⟨RX1, "decode", "(LGrinCoder$Row;LGrinCoder$Document;)I"⟩
abbrev cX1_fail : ByteArray := prog_3_method_4_code
def yX1_fail : MethodName := ⟨RX1, "fail", "(II)V"⟩
abbrev cX1_scanHead : ByteArray := prog_3_method_5_code
def yX1_scanHead : MethodName := ⟨RX1, "scanHead", "()V"⟩
abbrev cX1_isHeadByte : ByteArray := prog_3_method_6_code
def yX1_isHeadByte : MethodName := ⟨RX1, "isHeadByte", "(II)Z"⟩
abbrev cX1_beginItem : ByteArray := prog_3_method_7_code
def yX1_beginItem : MethodName := ⟨RX1, "beginItem", "()I"⟩
abbrev cX1_scanName : ByteArray := prog_3_method_8_code
def yX1_scanName : MethodName := ⟨RX1, "scanName", "(I)V"⟩
abbrev cX1_scanValue : ByteArray := prog_3_method_9_code
def yX1_scanValue : MethodName := ⟨RX1, "scanValue", "(I)V"⟩
abbrev cX1_scanBrief : ByteArray := prog_3_method_10_code
def yX1_scanBrief : MethodName := ⟨RX1, "scanBrief", "(I)V"⟩
abbrev cX1_scanArrayEnd : ByteArray := prog_3_method_11_code
def yX1_scanArrayEnd : MethodName := ⟨RX1, "scanArrayEnd", "()V"⟩
abbrev cX1_scanInteger : ByteArray := prog_3_method_12_code
def yX1_scanInteger : MethodName := ⟨RX1, "scanInteger", "(II)V"⟩
abbrev cX1_fromZigzag : ByteArray := prog_3_method_13_code
def yX1_fromZigzag : MethodName := ⟨RX1, "fromZigzag", "(J)J"⟩
abbrev cX1_scanReal : ByteArray := prog_3_method_14_code
def yX1_scanReal : MethodName := ⟨RX1, "scanReal", "(III)V"⟩
abbrev cX1_scanShort : ByteArray := prog_3_method_15_code
def yX1_scanShort : MethodName := ⟨RX1, "scanShort", "(II)V"⟩
abbrev cX1_scanLong : ByteArray := prog_3_method_16_code
def yX1_scanLong : MethodName := ⟨RX1, "scanLong", "(I)V"⟩
abbrev cX1_scanNearPlace : ByteArray := prog_3_method_17_code
def yX1_scanNearPlace : MethodName := ⟨RX1, "scanNearPlace", "(I)V"⟩
abbrev cX1_scanFarPlace : ByteArray := prog_3_method_18_code
def yX1_scanFarPlace : MethodName := ⟨RX1, "scanFarPlace", "(I)V"⟩
abbrev cX1_scanRaw : ByteArray := prog_3_method_19_code
def yX1_scanRaw : MethodName := ⟨RX1, "scanRaw", "()V"⟩
abbrev cX1_scanBits : ByteArray := prog_3_method_20_code
def yX1_scanBits : MethodName := ⟨RX1, "scanBits", "()V"⟩
abbrev cX1_sevensOf : ByteArray := prog_3_method_21_code
def yX1_sevensOf : MethodName := ⟨RX1, "sevensOf", "(J)J"⟩
abbrev cX1_bitsInLast : ByteArray := prog_3_method_22_code
def yX1_bitsInLast : MethodName := ⟨RX1, "bitsInLast", "(I)I"⟩
abbrev cX1_take : ByteArray := prog_3_method_23_code
def yX1_take : MethodName := ⟨RX1, "take", "()I"⟩
abbrev cX1_takeSeven : ByteArray := prog_3_method_24_code
def yX1_takeSeven : MethodName := ⟨RX1, "takeSeven", "()I"⟩
abbrev cX1_takeCount : ByteArray := prog_3_method_25_code
def yX1_takeCount : MethodName := ⟨RX1, "takeCount", "(II)J"⟩
abbrev cX1_append : ByteArray := prog_3_method_26_code
def yX1_append : MethodName := ⟨RX1, "append", "(JIII)J"⟩
abbrev cX1_skip : ByteArray := prog_3_method_27_code
def yX1_skip : MethodName := ⟨RX1, "skip", "(J)V"⟩
abbrev cX1_refuseByte : ByteArray := prog_3_method_28_code
def yX1_refuseByte : MethodName := ⟨RX1, "refuseByte", "()V"⟩
abbrev cX1_isShared : ByteArray := prog_3_method_29_code
def yX1_isShared : MethodName := ⟨RX1, "isShared", "()Z"⟩
abbrev cX1_table : ByteArray := prog_3_method_30_code
def yX1_table : MethodName := ⟨RX1, "table", "()LGrinCoder$Table;"⟩
abbrev cX1_judgeItem : ByteArray := prog_3_method_31_code
def yX1_judgeItem : MethodName := ⟨RX1, "judgeItem", "()V"⟩
abbrev cX1_keepItem : ByteArray := prog_3_method_32_code
def yX1_keepItem : MethodName := ⟨RX1, "keepItem", "()V"⟩
abbrev cX1_keepText : ByteArray := prog_3_method_33_code
def yX1_keepText : MethodName := ⟨RX1, "keepText", "()V"⟩
abbrev cX1_keepBits : ByteArray := prog_3_method_34_code
def yX1_keepBits : MethodName := ⟨RX1, "keepBits", "()V"⟩
def RX2 : String := "GrinCoder$Row"
def TX2 : u_T := fun k => match k with
  | 0 => ("GrinCoder$Row", "cells", "[B", true)
  | 1 => ("GrinCoder$Row", "size", "I", false)
  | _ => ("GrinCoder$Row", "tooLong", "Z", false)
def tyX2 : Nat → FieldType := fun k => match k with
  | 0 => .array .byte
  | 1 => .int
  | _ => .boolean
abbrev wsX20 : List Cond := u_ws RX2 TX2 3
theorem nmX2 : ∀ a, a < 3 → ∀ b, b < 3 → a ≠ b → (TX2 a).2.1 ≠ (TX2 b).2.1 := by decide +kernel
theorem tyX2_ok : ∀ k, k < 3 → parseFieldDescriptor (TX2 k).2.2.1 = some (tyX2 k) := by decide +kernel
abbrev cX2_init : ByteArray := prog_4_method_1_code
def yX2_init : MethodName := ⟨RX2, "<init>", "(I)V"⟩
abbrev cX2_size : ByteArray := prog_4_method_2_code
def yX2_size : MethodName := ⟨RX2, "size", "()I"⟩
abbrev cX2_isTooLong : ByteArray := prog_4_method_3_code
def yX2_isTooLong : MethodName := ⟨RX2, "isTooLong", "()Z"⟩
abbrev cX2_at : ByteArray := prog_4_method_4_code
def yX2_at : MethodName := ⟨RX2, "at", "(I)I"⟩
abbrev cX2_clear : ByteArray := prog_4_method_5_code
def yX2_clear : MethodName := ⟨RX2, "clear", "()V"⟩
abbrev cX2_push : ByteArray := prog_4_method_6_code
def yX2_push : MethodName := ⟨RX2, "push", "(I)V"⟩
abbrev cX2_pushLowest : ByteArray := prog_4_method_7_code
def yX2_pushLowest : MethodName := ⟨RX2, "pushLowest", "(JI)I"⟩
abbrev cX2_copyFrom : ByteArray := prog_4_method_8_code
def yX2_copyFrom : MethodName := ⟨RX2, "copyFrom", "(LGrinCoder$Row;)V"⟩
def RX3 : String := "GrinCoder$Table"
def TX3 : u_T := fun k => match k with
  | 0 => ("GrinCoder$Table", "items", "[I", true)
  | 1 => ("GrinCoder$Table", "chain", "[I", true)
  | 2 => ("GrinCoder$Table", "heads", "[I", true)
  | _ => ("GrinCoder$Table", "size", "I", false)
def tyX3 : Nat → FieldType := fun k => match k with
  | 0 => .array .int
  | 1 => .array .int
  | 2 => .array .int
  | _ => .int
abbrev wsX30 : List Cond := u_ws RX3 TX3 4
theorem nmX3 : ∀ a, a < 4 → ∀ b, b < 4 → a ≠ b → (TX3 a).2.1 ≠ (TX3 b).2.1 := by decide +kernel
theorem tyX3_ok : ∀ k, k < 4 → parseFieldDescriptor (TX3 k).2.2.1 = some (tyX3 k) := by decide +kernel
abbrev cX3_init : ByteArray := prog_5_method_1_code
def yX3_init : MethodName := ⟨RX3, "<init>", "()V"⟩
abbrev cX3_clear : ByteArray := prog_5_method_2_code
def yX3_clear : MethodName := ⟨RX3, "clear", "()V"⟩
abbrev cX3_canBeTold : ByteArray := prog_5_method_3_code
def yX3_canBeTold : MethodName := ⟨RX3, "canBeTold", "(I)Z"⟩
abbrev cX3_takes : ByteArray := prog_5_method_4_code
def yX3_takes : MethodName := ⟨RX3, "takes", "(I)Z"⟩
abbrev cX3_itemAt : ByteArray := prog_5_method_5_code
def yX3_itemAt : MethodName := ⟨RX3, "itemAt", "(I)I"⟩
abbrev cX3_put : ByteArray := prog_5_method_6_code
def yX3_put : MethodName := ⟨RX3, "put", "(LGrinCoder$Document;I)V"⟩
abbrev cX3_placeOf : ByteArray := prog_5_method_7_code
def yX3_placeOf : MethodName := ⟨RX3, "placeOf", "(LGrinCoder$Document;I)I"⟩
abbrev cX3_bucketOf : ByteArray := prog_5_method_8_code
def yX3_bucketOf : MethodName := ⟨RX3, "bucketOf", "(I)I"⟩
def RX4 : String := "GrinCoder$Utf8"
def TX4 : u_T := fun k => match k with
  | _ => ("", "", "", false)
def tyX4 : Nat → FieldType := fun k => match k with
  | _ => .int
abbrev wsX40 : List Cond := u_ws RX4 TX4 0
theorem nmX4 : ∀ a, a < 0 → ∀ b, b < 0 → a ≠ b → (TX4 a).2.1 ≠ (TX4 b).2.1 := by decide +kernel
theorem tyX4_ok : ∀ k, k < 0 → parseFieldDescriptor (TX4 k).2.2.1 = some (tyX4 k) := by decide +kernel
abbrev cX4_isAscii : ByteArray := prog_6_method_2_code
def yX4_isAscii : MethodName := ⟨RX4, "isAscii", "(LGrinCoder$Row;II)Z"⟩
abbrev cX4_isText : ByteArray := prog_6_method_3_code
def yX4_isText : MethodName := ⟨RX4, "isText", "(LGrinCoder$Row;II)Z"⟩
abbrev cX4_widthAt : ByteArray := prog_6_method_4_code
def yX4_widthAt : MethodName := ⟨RX4, "widthAt", "(LGrinCoder$Row;I)I"⟩
abbrev cX4_isSecond : ByteArray := prog_6_method_5_code
def yX4_isSecond : MethodName := ⟨RX4, "isSecond", "(II)Z"⟩
abbrev cX4_isBetween : ByteArray := prog_6_method_6_code
def yX4_isBetween : MethodName := ⟨RX4, "isBetween", "(III)Z"⟩
def RX5 : String := "GrinCoder$Writer"
def TX5 : u_T := fun k => match k with
  | 0 => ("GrinCoder$Writer", "names", "LGrinCoder$Table;", true)
  | 1 => ("GrinCoder$Writer", "texts", "LGrinCoder$Table;", true)
  | 2 => ("GrinCoder$Writer", "opened", "[I", true)
  | 3 => ("GrinCoder$Writer", "document", "LGrinCoder$Document;", false)
  | 4 => ("GrinCoder$Writer", "out", "LGrinCoder$Row;", false)
  | _ => ("GrinCoder$Writer", "flags", "I", false)
def tyX5 : Nat → FieldType := fun k => match k with
  | 0 => .object "GrinCoder$Table"
  | 1 => .object "GrinCoder$Table"
  | 2 => .array .int
  | 3 => .object "GrinCoder$Document"
  | 4 => .object "GrinCoder$Row"
  | _ => .int
abbrev wsX50 : List Cond := u_ws RX5 TX5 6
theorem nmX5 : ∀ a, a < 6 → ∀ b, b < 6 → a ≠ b → (TX5 a).2.1 ≠ (TX5 b).2.1 := by decide +kernel
theorem tyX5_ok : ∀ k, k < 6 → parseFieldDescriptor (TX5 k).2.2.1 = some (tyX5 k) := by decide +kernel
abbrev cX5_init : ByteArray := prog_7_method_1_code
def yX5_init : MethodName := ⟨RX5, "<init>", "(LGrinCoder$Table;LGrinCoder$Table;)V"⟩
abbrev cX5_encode : ByteArray := prog_7_method_2_code
def yX5_encode : MethodName := ⟨RX5, "encode", "(LGrinCoder$Document;ILGrinCoder$Row;)Z"⟩
abbrev cX5_encodeItem : ByteArray := prog_7_method_3_code
def yX5_encodeItem : MethodName := ⟨RX5, "encodeItem", "(I)V"⟩
abbrev cX5_encodeOpening : ByteArray := prog_7_method_4_code
def yX5_encodeOpening : MethodName := ⟨RX5, "encodeOpening", "(II)V"⟩
abbrev cX5_encodeEnd : ByteArray := prog_7_method_5_code
def yX5_encodeEnd : MethodName := ⟨RX5, "encodeEnd", "(I)V"⟩
abbrev cX5_encodeInteger : ByteArray := prog_7_method_6_code
def yX5_encodeInteger : MethodName := ⟨RX5, "encodeInteger", "(J)V"⟩
abbrev cX5_encodeCount : ByteArray := prog_7_method_7_code
def yX5_encodeCount : MethodName := ⟨RX5, "encodeCount", "(J)V"⟩
abbrev cX5_encodeReal : ByteArray := prog_7_method_8_code
def yX5_encodeReal : MethodName := ⟨RX5, "encodeReal", "(IJI)V"⟩
abbrev cX5_encodeText : ByteArray := prog_7_method_9_code
def yX5_encodeText : MethodName := ⟨RX5, "encodeText", "(I)V"⟩
abbrev cX5_encodeName : ByteArray := prog_7_method_10_code
def yX5_encodeName : MethodName := ⟨RX5, "encodeName", "(I)V"⟩
abbrev cX5_encodePlace : ByteArray := prog_7_method_11_code
def yX5_encodePlace : MethodName := ⟨RX5, "encodePlace", "(IIII)V"⟩
abbrev cX5_encodeShort : ByteArray := prog_7_method_12_code
def yX5_encodeShort : MethodName := ⟨RX5, "encodeShort", "(II)V"⟩
abbrev cX5_encodeLong : ByteArray := prog_7_method_13_code
def yX5_encodeLong : MethodName := ⟨RX5, "encodeLong", "(II)V"⟩
abbrev cX5_encodeBytes : ByteArray := prog_7_method_14_code
def yX5_encodeBytes : MethodName := ⟨RX5, "encodeBytes", "(I)V"⟩
abbrev cX5_pushBitsOf : ByteArray := prog_7_method_15_code
def yX5_pushBitsOf : MethodName := ⟨RX5, "pushBitsOf", "(I)V"⟩
def RX6 : String := "GrinCoder"
def TX6 : u_T := fun k => match k with
  | 0 => ("GrinCoder", "typed", "LGrinCoder$Row;", true)
  | 1 => ("GrinCoder", "loaded", "LGrinCoder$Row;", true)
  | 2 => ("GrinCoder", "writer", "LGrinCoder$Writer;", true)
  | 3 => ("GrinCoder", "reader", "LGrinCoder$Reader;", true)
  | 4 => ("GrinCoder", "output", "LGrinCoder$Row;", false)
  | 5 => ("GrinCoder", "spareOutput", "LGrinCoder$Row;", false)
  | 6 => ("GrinCoder", "document", "LGrinCoder$Document;", false)
  | _ => ("GrinCoder", "spareDocument", "LGrinCoder$Document;", false)
def tyX6 : Nat → FieldType := fun k => match k with
  | 0 => .object "GrinCoder$Row"
  | 1 => .object "GrinCoder$Row"
  | 2 => .object "GrinCoder$Writer"
  | 3 => .object "GrinCoder$Reader"
  | 4 => .object "GrinCoder$Row"
  | 5 => .object "GrinCoder$Row"
  | 6 => .object "GrinCoder$Document"
  | _ => .object "GrinCoder$Document"
abbrev wsX60 : List Cond := u_ws RX6 TX6 8
theorem nmX6 : ∀ a, a < 8 → ∀ b, b < 8 → a ≠ b → (TX6 a).2.1 ≠ (TX6 b).2.1 := by decide +kernel
theorem tyX6_ok : ∀ k, k < 8 → parseFieldDescriptor (TX6 k).2.2.1 = some (tyX6 k) := by decide +kernel
abbrev cX6_init : ByteArray := prog_1_method_1_code
def yX6_init : MethodName := ⟨RX6, "<init>", "()V"⟩
abbrev cX6_type : ByteArray := prog_1_method_2_code
def yX6_type : MethodName := ⟨RX6, "type", "(JI)I"⟩
abbrev cX6_value : ByteArray := prog_1_method_3_code
def yX6_value : MethodName := ⟨RX6, "value", "(I)I"⟩
abbrev cX6_integer : ByteArray := prog_1_method_4_code
def yX6_integer : MethodName := ⟨RX6, "integer", "(J)I"⟩
abbrev cX6_real : ByteArray := prog_1_method_5_code
def yX6_real : MethodName := ⟨RX6, "real", "(JI)I"⟩
abbrev cX6_name : ByteArray := prog_1_method_6_code
def yX6_name : MethodName := ⟨RX6, "name", "()I"⟩
abbrev cX6_end : ByteArray := prog_1_method_7_code
def yX6_end : MethodName := ⟨RX6, "end", "()I"⟩
abbrev cX6_drop : ByteArray := prog_1_method_8_code
def yX6_drop : MethodName := ⟨RX6, "drop", "()I"⟩
abbrev cX6_write : ByteArray := prog_1_method_9_code
def yX6_write : MethodName := ⟨RX6, "write", "(I)I"⟩
abbrev cX6_written : ByteArray := prog_1_method_10_code
def yX6_written : MethodName := ⟨RX6, "written", "(I)I"⟩
abbrev cX6_load : ByteArray := prog_1_method_11_code
def yX6_load : MethodName := ⟨RX6, "load", "(JI)I"⟩
abbrev cX6_loop : ByteArray := prog_1_method_12_code
def yX6_loop : MethodName := ⟨RX6, "loop", "()I"⟩
abbrev cX6_read : ByteArray := prog_1_method_13_code
def yX6_read : MethodName := ⟨RX6, "read", "()I"⟩
abbrev cX6_place : ByteArray := prog_1_method_14_code
def yX6_place : MethodName := ⟨RX6, "place", "()I"⟩
abbrev cX6_item : ByteArray := prog_1_method_15_code
def yX6_item : MethodName := ⟨RX6, "item", "(II)I"⟩
abbrev cX6_number : ByteArray := prog_1_method_16_code
def yX6_number : MethodName := ⟨RX6, "number", "(I)J"⟩
abbrev cX6_byteOf : ByteArray := prog_1_method_17_code
def yX6_byteOf : MethodName := ⟨RX6, "byteOf", "(II)I"⟩
abbrev cX6_count : ByteArray := prog_1_method_18_code
def yX6_count : MethodName := ⟨RX6, "count", "(I)I"⟩
abbrev cX6_check : ByteArray := prog_1_method_19_code
def yX6_check : MethodName := ⟨RX6, "check", "()I"⟩
abbrev cX6_addPlain : ByteArray := prog_1_method_20_code
def yX6_addPlain : MethodName := ⟨RX6, "addPlain", "(IJ)I"⟩
abbrev cX6_addTyped : ByteArray := prog_1_method_21_code
def yX6_addTyped : MethodName := ⟨RX6, "addTyped", "(I)I"⟩
def RX7 : String := "GrinCoderModel"
def TX7 : u_T := fun k => match k with
  | 0 => ("GrinCoderModel", "typed", "[B", true)
  | 1 => ("GrinCoderModel", "typedSize", "I", false)
  | 2 => ("GrinCoderModel", "loaded", "[B", true)
  | 3 => ("GrinCoderModel", "loadedSize", "I", false)
  | 4 => ("GrinCoderModel", "written", "[B", true)
  | 5 => ("GrinCoderModel", "writtenSize", "I", false)
  | 6 => ("GrinCoderModel", "draft", "[B", true)
  | 7 => ("GrinCoderModel", "draftSize", "I", false)
  | 8 => ("GrinCoderModel", "kind", "[I", true)
  | 9 => ("GrinCoderModel", "number", "[J", true)
  | 10 => ("GrinCoderModel", "start", "[I", true)
  | 11 => ("GrinCoderModel", "length", "[I", true)
  | 12 => ("GrinCoderModel", "within", "[I", true)
  | 13 => ("GrinCoderModel", "pool", "[B", true)
  | 14 => ("GrinCoderModel", "items", "[I", true)
  | 15 => ("GrinCoderModel", "bytes", "[I", true)
  | 16 => ("GrinCoderModel", "isObject", "[Z", true)
  | 17 => ("GrinCoderModel", "named", "[Z", true)
  | 18 => ("GrinCoderModel", "depth", "[I", true)
  | 19 => ("GrinCoderModel", "table", "[I", true)
  | 20 => ("GrinCoderModel", "tableSize", "[I", true)
  | 21 => ("GrinCoderModel", "at", "I", false)
  | 22 => ("GrinCoderModel", "flags", "I", false)
  | 23 => ("GrinCoderModel", "fault", "I", false)
  | 24 => ("GrinCoderModel", "place", "I", false)
  | 25 => ("GrinCoderModel", "first", "I", false)
  | 26 => ("GrinCoderModel", "ends", "[Z", true)
  | _ => ("GrinCoderModel", "got", "I", false)
def tyX7 : Nat → FieldType := fun k => match k with
  | 0 => .array .byte
  | 1 => .int
  | 2 => .array .byte
  | 3 => .int
  | 4 => .array .byte
  | 5 => .int
  | 6 => .array .byte
  | 7 => .int
  | 8 => .array .int
  | 9 => .array .long
  | 10 => .array .int
  | 11 => .array .int
  | 12 => .array .int
  | 13 => .array .byte
  | 14 => .array .int
  | 15 => .array .int
  | 16 => .array .boolean
  | 17 => .array .boolean
  | 18 => .array .int
  | 19 => .array .int
  | 20 => .array .int
  | 21 => .int
  | 22 => .int
  | 23 => .int
  | 24 => .int
  | 25 => .int
  | 26 => .array .boolean
  | _ => .int
abbrev wsX70 : List Cond := u_ws RX7 TX7 28
theorem nmX7 : ∀ a, a < 28 → ∀ b, b < 28 → a ≠ b → (TX7 a).2.1 ≠ (TX7 b).2.1 := by decide +kernel
theorem tyX7_ok : ∀ k, k < 28 → parseFieldDescriptor (TX7 k).2.2.1 = some (tyX7 k) := by decide +kernel
abbrev cX7_init : ByteArray := prog_9_method_1_code
def yX7_init : MethodName := ⟨RX7, "<init>", "()V"⟩
abbrev cX7_type : ByteArray := prog_9_method_3_code
def yX7_type : MethodName := ⟨RX7, "type", "(JI)I"⟩
abbrev cX7_load : ByteArray := prog_9_method_4_code
def yX7_load : MethodName := ⟨RX7, "load", "(JI)I"⟩
abbrev cX7_character : ByteArray := prog_9_method_5_code
def yX7_character : MethodName := ⟨RX7, "character", "(II)I"⟩
abbrev cX7_isText : ByteArray := prog_9_method_6_code
def yX7_isText : MethodName := ⟨RX7, "isText", "(II)Z"⟩
abbrev cX7_isAscii : ByteArray := prog_9_method_7_code
def yX7_isAscii : MethodName := ⟨RX7, "isAscii", "(II)Z"⟩
abbrev cX7_isWhole : ByteArray := prog_9_method_8_code
def yX7_isWhole : MethodName := ⟨RX7, "isWhole", "(I)Z"⟩
abbrev cX7_top : ByteArray := prog_9_method_9_code
def yX7_top : MethodName := ⟨RX7, "top", "(I)I"⟩
abbrev cX7_inObject : ByteArray := prog_9_method_10_code
def yX7_inObject : MethodName := ⟨RX7, "inObject", "(I)Z"⟩
abbrev cX7_wantsName : ByteArray := prog_9_method_11_code
def yX7_wantsName : MethodName := ⟨RX7, "wantsName", "(I)Z"⟩
abbrev cX7_mayBe : ByteArray := prog_9_method_12_code
def yX7_mayBe : MethodName := ⟨RX7, "mayBe", "(IIZ)Z"⟩
abbrev cX7_add : ByteArray := prog_9_method_13_code
def yX7_add : MethodName := ⟨RX7, "add", "(IIJI)V"⟩
abbrev cX7_takesValue : ByteArray := prog_9_method_14_code
def yX7_takesValue : MethodName := ⟨RX7, "takesValue", "()Z"⟩
abbrev cX7_offer : ByteArray := prog_9_method_15_code
def yX7_offer : MethodName := ⟨RX7, "offer", "()Z"⟩
abbrev cX7_value : ByteArray := prog_9_method_16_code
def yX7_value : MethodName := ⟨RX7, "value", "(I)I"⟩
abbrev cX7_integer : ByteArray := prog_9_method_17_code
def yX7_integer : MethodName := ⟨RX7, "integer", "(J)I"⟩
abbrev cX7_real : ByteArray := prog_9_method_18_code
def yX7_real : MethodName := ⟨RX7, "real", "(JI)I"⟩
abbrev cX7_name : ByteArray := prog_9_method_19_code
def yX7_name : MethodName := ⟨RX7, "name", "()I"⟩
abbrev cX7_end : ByteArray := prog_9_method_20_code
def yX7_end : MethodName := ⟨RX7, "end", "()I"⟩
abbrev cX7_clear : ByteArray := prog_9_method_21_code
def yX7_clear : MethodName := ⟨RX7, "clear", "(I)V"⟩
abbrev cX7_drop : ByteArray := prog_9_method_22_code
def yX7_drop : MethodName := ⟨RX7, "drop", "()I"⟩
abbrev cX7_isSame : ByteArray := prog_9_method_23_code
def yX7_isSame : MethodName := ⟨RX7, "isSame", "(II)Z"⟩
abbrev cX7_find : ByteArray := prog_9_method_24_code
def yX7_find : MethodName := ⟨RX7, "find", "(II)I"⟩
abbrev cX7_keep : ByteArray := prog_9_method_25_code
def yX7_keep : MethodName := ⟨RX7, "keep", "(III)V"⟩
abbrev cX7_put : ByteArray := prog_9_method_26_code
def yX7_put : MethodName := ⟨RX7, "put", "(I)V"⟩
abbrev cX7_putBytes : ByteArray := prog_9_method_27_code
def yX7_putBytes : MethodName := ⟨RX7, "putBytes", "(I)V"⟩
abbrev cX7_putCount : ByteArray := prog_9_method_28_code
def yX7_putCount : MethodName := ⟨RX7, "putCount", "(J)V"⟩
abbrev cX7_putInteger : ByteArray := prog_9_method_29_code
def yX7_putInteger : MethodName := ⟨RX7, "putInteger", "(J)V"⟩
abbrev cX7_putReal : ByteArray := prog_9_method_30_code
def yX7_putReal : MethodName := ⟨RX7, "putReal", "(JI)V"⟩
abbrev cX7_putSeven : ByteArray := prog_9_method_31_code
def yX7_putSeven : MethodName := ⟨RX7, "putSeven", "(I)V"⟩
abbrev cX7_putText : ByteArray := prog_9_method_32_code
def yX7_putText : MethodName := ⟨RX7, "putText", "(II)V"⟩
abbrev cX7_putName : ByteArray := prog_9_method_33_code
def yX7_putName : MethodName := ⟨RX7, "putName", "(II)V"⟩
abbrev cX7_putItem : ByteArray := prog_9_method_34_code
def yX7_putItem : MethodName := ⟨RX7, "putItem", "(IIZ)V"⟩
abbrev cX7_write : ByteArray := prog_9_method_35_code
def yX7_write : MethodName := ⟨RX7, "write", "(I)I"⟩
abbrev cX7_written : ByteArray := prog_9_method_36_code
def yX7_written : MethodName := ⟨RX7, "written", "(I)I"⟩
abbrev cX7_loop : ByteArray := prog_9_method_37_code
def yX7_loop : MethodName := ⟨RX7, "loop", "()I"⟩
abbrev cX7_fail : ByteArray := prog_9_method_38_code
def yX7_fail : MethodName := ⟨RX7, "fail", "(II)V"⟩
abbrev cX7_next : ByteArray := prog_9_method_39_code
def yX7_next : MethodName := ⟨RX7, "next", "()I"⟩
abbrev cX7_readCount : ByteArray := prog_9_method_40_code
def yX7_readCount : MethodName := ⟨RX7, "readCount", "(II)J"⟩
abbrev cX7_readReal : ByteArray := prog_9_method_41_code
def yX7_readReal : MethodName := ⟨RX7, "readReal", "(II)J"⟩
abbrev cX7_take : ByteArray := prog_9_method_42_code
def yX7_take : MethodName := ⟨RX7, "take", "(I)V"⟩
abbrev cX7_addTaken : ByteArray := prog_9_method_43_code
def yX7_addTaken : MethodName := ⟨RX7, "addTaken", "(I)V"⟩
abbrev cX7_takeMany : ByteArray := prog_9_method_44_code
def yX7_takeMany : MethodName := ⟨RX7, "takeMany", "(I)V"⟩
abbrev cX7_takeLong : ByteArray := prog_9_method_45_code
def yX7_takeLong : MethodName := ⟨RX7, "takeLong", "()V"⟩
abbrev cX7_takeSeven : ByteArray := prog_9_method_46_code
def yX7_takeSeven : MethodName := ⟨RX7, "takeSeven", "(J)V"⟩
abbrev cX7_addGot : ByteArray := prog_9_method_47_code
def yX7_addGot : MethodName := ⟨RX7, "addGot", "(IZZ)V"⟩
abbrev cX7_addPlaced : ByteArray := prog_9_method_48_code
def yX7_addPlaced : MethodName := ⟨RX7, "addPlaced", "(III)V"⟩
abbrev cX7_addPlain : ByteArray := prog_9_method_49_code
def yX7_addPlain : MethodName := ⟨RX7, "addPlain", "(IJZ)V"⟩
abbrev cX7_unzigzag : ByteArray := prog_9_method_50_code
def yX7_unzigzag : MethodName := ⟨RX7, "unzigzag", "(J)J"⟩
abbrev cX7_readName : ByteArray := prog_9_method_51_code
def yX7_readName : MethodName := ⟨RX7, "readName", "(I)V"⟩
abbrev cX7_readText : ByteArray := prog_9_method_52_code
def yX7_readText : MethodName := ⟨RX7, "readText", "(I)V"⟩
abbrev cX7_readValue : ByteArray := prog_9_method_53_code
def yX7_readValue : MethodName := ⟨RX7, "readValue", "(I)V"⟩
abbrev cX7_readHead : ByteArray := prog_9_method_54_code
def yX7_readHead : MethodName := ⟨RX7, "readHead", "()V"⟩
abbrev cX7_read : ByteArray := prog_9_method_55_code
def yX7_read : MethodName := ⟨RX7, "read", "()I"⟩
abbrev cX7_holdRead : ByteArray := prog_9_method_56_code
def yX7_holdRead : MethodName := ⟨RX7, "holdRead", "()V"⟩
abbrev cX7_place : ByteArray := prog_9_method_57_code
def yX7_place : MethodName := ⟨RX7, "place", "()I"⟩
abbrev cX7_isItem : ByteArray := prog_9_method_58_code
def yX7_isItem : MethodName := ⟨RX7, "isItem", "(I)Z"⟩
abbrev cX7_item : ByteArray := prog_9_method_59_code
def yX7_item : MethodName := ⟨RX7, "item", "(II)I"⟩
abbrev cX7_number : ByteArray := prog_9_method_60_code
def yX7_number : MethodName := ⟨RX7, "number", "(I)J"⟩
abbrev cX7_byteOf : ByteArray := prog_9_method_61_code
def yX7_byteOf : MethodName := ⟨RX7, "byteOf", "(II)I"⟩
abbrev cX7_count : ByteArray := prog_9_method_62_code
def yX7_count : MethodName := ⟨RX7, "count", "(I)I"⟩
abbrev cX7_check : ByteArray := prog_9_method_63_code
def yX7_check : MethodName := ⟨RX7, "check", "()I"⟩
def RJ9 : String := "java/lang/Math"
def TJ9 : u_T := fun k => match k with
  | _ => ("", "", "", false)
def tyJ9 : Nat → FieldType := fun k => match k with
  | _ => .int
abbrev wsJ90 : List Cond := u_ws RJ9 TJ9 0
theorem nmJ9 : ∀ a, a < 0 → ∀ b, b < 0 → a ≠ b → (TJ9 a).2.1 ≠ (TJ9 b).2.1 := by decide +kernel
theorem tyJ9_ok : ∀ k, k < 0 → parseFieldDescriptor (TJ9 k).2.2.1 = some (tyJ9 k) := by decide +kernel
abbrev cJ9_min_f86c9 : ByteArray := prog_10_method_70_code
def yJ9_min_f86c9 : MethodName := ⟨RJ9, "min", "(JJ)J"⟩
def RJ7 : String := "java/util/Arrays"
def TJ7 : u_T := fun k => match k with
  | _ => ("", "", "", false)
def tyJ7 : Nat → FieldType := fun k => match k with
  | _ => .int
abbrev wsJ70 : List Cond := u_ws RJ7 TJ7 0
theorem nmJ7 : ∀ a, a < 0 → ∀ b, b < 0 → a ≠ b → (TJ7 a).2.1 ≠ (TJ7 b).2.1 := by decide +kernel
theorem tyJ7_ok : ∀ k, k < 0 → parseFieldDescriptor (TJ7 k).2.2.1 = some (tyJ7 k) := by decide +kernel
abbrev cJ7_fill_53178 : ByteArray := prog_11_method_103_code
def yJ7_fill_53178 : MethodName := ⟨RJ7, "fill", "([II)V"⟩
def RL : String := "GrinCoderLaw"
abbrev cL_law : ByteArray := code
def yL_law : MethodName := ⟨RL, "law", "([I)Z"⟩
abbrev vwCl : List vw_C := [(RX0, TX0, 10), (RX1, TX1, 16), (RX2, TX2, 3), (RX3, TX3, 4), (RX5, TX5, 6), (RX6, TX6, 8), (RX7, TX7, 28)]
/-! where the words stand -/
def lw_gt : List Cond := lw_tbl.filter goodWord
theorem lw_in (i : Nat) {w : Cond} (h : tables_1[i]? = some w) (hg : goodWord w = true := by rfl) : w ∈ lw_gt := List.mem_filter.mpr ⟨List.mem_append_right _ (List.mem_of_getElem? h), hg⟩
theorem lw_pr (i : Nat) {y : MethodName} (h : (lw_privs[i]?).map (fun q => q.1) = some y) : Cond.selects y.cls y y ∈ lw_gt := by
  cases hq : lw_privs[i]? with
  | none => rw [hq] at h; cases h
  | some q =>
    rw [hq] at h
    have hy : q.1 = y := Option.some.inj h
    subst hy
    exact List.mem_filter.mpr ⟨List.mem_append_left _ (List.mem_map.mpr ⟨q, List.mem_of_getElem? hq, rfl⟩), rfl⟩
theorem lw_good : lw_gt.all goodWord = true := List.all_eq_true.mpr (fun w h => (List.mem_filter.mp h).2)
set_option maxRecDepth 100000 in
theorem wn_L : Cond.initialized RL ∈ lw_gt := lw_in 0 (by decide +kernel)
set_option maxRecDepth 100000 in
theorem wn_X6 : Cond.initialized RX6 ∈ lw_gt := lw_in 1 (by decide +kernel)
set_option maxRecDepth 100000 in
theorem wn_X2 : Cond.initialized RX2 ∈ lw_gt := lw_in 2 (by decide +kernel)
set_option maxRecDepth 100000 in
theorem wn_X0 : Cond.initialized RX0 ∈ lw_gt := lw_in 3 (by decide +kernel)
set_option maxRecDepth 100000 in
theorem wn_X3 : Cond.initialized RX3 ∈ lw_gt := lw_in 4 (by decide +kernel)
set_option maxRecDepth 100000 in
theorem wn_X5 : Cond.initialized RX5 ∈ lw_gt := lw_in 5 (by decide +kernel)
set_option maxRecDepth 100000 in
theorem wn_X1 : Cond.initialized RX1 ∈ lw_gt := lw_in 6 (by decide +kernel)
set_option maxRecDepth 100000 in
theorem wn_X7 : Cond.initialized RX7 ∈ lw_gt := lw_in 7 (by decide +kernel)
set_option maxRecDepth 100000 in
theorem wn_X4 : Cond.initialized RX4 ∈ lw_gt := lw_in 8 (by decide +kernel)
set_option maxRecDepth 100000 in
theorem wn_J7 : Cond.initialized RJ7 ∈ lw_gt := lw_in 9 (by decide +kernel)
set_option maxRecDepth 100000 in
theorem wn_J9 : Cond.initialized RJ9 ∈ lw_gt := lw_in 10 (by decide +kernel)
set_option maxRecDepth 100000 in
theorem wcl_L_7 : Cond.classLink RL 7 RX6 ∈ lw_gt := lw_in 11 (by decide +kernel)
set_option maxRecDepth 100000 in
theorem wins_X6 : Cond.instantiable RX6 8 ∈ lw_gt := lw_in 12 (by decide +kernel)
set_option maxRecDepth 100000 in
theorem wm_L_9 : Cond.methodLink RL 9 yX6_init ∈ lw_gt := lw_in 13 (by decide +kernel)
set_option maxRecDepth 100000 in
theorem wm_X6_1 : Cond.methodLink RX6 1 objectInit ∈ lw_gt := lw_in 16 (by decide +kernel)
set_option maxRecDepth 100000 in
theorem wobj_i : Cond.instanceMethod objectInit ∈ lw_gt := lw_in 17 (by decide +kernel)
set_option maxRecDepth 100000 in
theorem wobj_c : Cond.code objectInit ⟨#[0xb1]⟩ 1 none ∈ lw_gt := lw_in 18 (by decide +kernel)
set_option maxRecDepth 100000 in
theorem wcl_X6_7 : Cond.classLink RX6 7 RX2 ∈ lw_gt := lw_in 19 (by decide +kernel)
set_option maxRecDepth 100000 in
theorem wins_X2 : Cond.instantiable RX2 3 ∈ lw_gt := lw_in 20 (by decide +kernel)
set_option maxRecDepth 100000 in
theorem wm_X6_11 : Cond.methodLink RX6 11 yX2_init ∈ lw_gt := lw_in 21 (by decide +kernel)
set_option maxRecDepth 100000 in
theorem wm_X2_3 : Cond.methodLink RX2 3 objectInit ∈ lw_gt := lw_in 24 (by decide +kernel)
set_option maxRecDepth 100000 in
theorem wf_X2_9 : Cond.fieldLink RX2 9 (TX2 0).1 (TX2 0).2.1 (TX2 0).2.2.1 ∈ lw_gt := lw_in 25 (by decide +kernel)
set_option maxRecDepth 100000 in
theorem wf_X2_15 : Cond.fieldLink RX2 15 (TX2 1).1 (TX2 1).2.1 (TX2 1).2.2.1 ∈ lw_gt := lw_in 26 (by decide +kernel)
set_option maxRecDepth 100000 in
theorem wf_X2_19 : Cond.fieldLink RX2 19 (TX2 2).1 (TX2 2).2.1 (TX2 2).2.2.1 ∈ lw_gt := lw_in 27 (by decide +kernel)
set_option maxRecDepth 100000 in
theorem war_byte : Cond.arrayClass .byte ∈ lw_gt := lw_in 35 (by decide +kernel)
set_option maxRecDepth 100000 in
theorem wcl_X6_27 : Cond.classLink RX6 27 RX0 ∈ lw_gt := lw_in 36 (by decide +kernel)
set_option maxRecDepth 100000 in
theorem wins_X0 : Cond.instantiable RX0 10 ∈ lw_gt := lw_in 37 (by decide +kernel)
set_option maxRecDepth 100000 in
theorem wm_X0_3 : Cond.methodLink RX0 3 objectInit ∈ lw_gt := lw_in 41 (by decide +kernel)
set_option maxRecDepth 100000 in
theorem wcl_X0_28 : Cond.classLink RX0 28 RX2 ∈ lw_gt := lw_in 42 (by decide +kernel)
set_option maxRecDepth 100000 in
theorem wm_X0_30 : Cond.methodLink RX0 30 yX2_init ∈ lw_gt := lw_in 43 (by decide +kernel)
set_option maxRecDepth 100000 in
theorem wf_X0_9 : Cond.fieldLink RX0 9 (TX0 0).1 (TX0 0).2.1 (TX0 0).2.2.1 ∈ lw_gt := lw_in 44 (by decide +kernel)
set_option maxRecDepth 100000 in
theorem wf_X0_15 : Cond.fieldLink RX0 15 (TX0 1).1 (TX0 1).2.1 (TX0 1).2.2.1 ∈ lw_gt := lw_in 45 (by decide +kernel)
set_option maxRecDepth 100000 in
theorem wf_X0_18 : Cond.fieldLink RX0 18 (TX0 2).1 (TX0 2).2.1 (TX0 2).2.2.1 ∈ lw_gt := lw_in 46 (by decide +kernel)
set_option maxRecDepth 100000 in
theorem wf_X0_21 : Cond.fieldLink RX0 21 (TX0 3).1 (TX0 3).2.1 (TX0 3).2.2.1 ∈ lw_gt := lw_in 47 (by decide +kernel)
set_option maxRecDepth 100000 in
theorem wf_X0_24 : Cond.fieldLink RX0 24 (TX0 4).1 (TX0 4).2.1 (TX0 4).2.2.1 ∈ lw_gt := lw_in 48 (by decide +kernel)
set_option maxRecDepth 100000 in
theorem wf_X0_33 : Cond.fieldLink RX0 33 (TX0 5).1 (TX0 5).2.1 (TX0 5).2.2.1 ∈ lw_gt := lw_in 49 (by decide +kernel)
set_option maxRecDepth 100000 in
theorem wf_X0_37 : Cond.fieldLink RX0 37 (TX0 6).1 (TX0 6).2.1 (TX0 6).2.2.1 ∈ lw_gt := lw_in 50 (by decide +kernel)
set_option maxRecDepth 100000 in
theorem wf_X0_40 : Cond.fieldLink RX0 40 (TX0 7).1 (TX0 7).2.1 (TX0 7).2.2.1 ∈ lw_gt := lw_in 51 (by decide +kernel)
set_option maxRecDepth 100000 in
theorem wf_X0_47 : Cond.fieldLink RX0 47 (TX0 8).1 (TX0 8).2.1 (TX0 8).2.2.1 ∈ lw_gt := lw_in 52 (by decide +kernel)
set_option maxRecDepth 100000 in
theorem wf_X0_50 : Cond.fieldLink RX0 50 (TX0 9).1 (TX0 9).2.1 (TX0 9).2.2.1 ∈ lw_gt := lw_in 53 (by decide +kernel)
set_option maxRecDepth 100000 in
theorem war_int : Cond.arrayClass .int ∈ lw_gt := lw_in 75 (by decide +kernel)
set_option maxRecDepth 100000 in
theorem war_long : Cond.arrayClass .long ∈ lw_gt := lw_in 76 (by decide +kernel)
set_option maxRecDepth 100000 in
theorem wcl_X6_37 : Cond.classLink RX6 37 RX3 ∈ lw_gt := lw_in 77 (by decide +kernel)
set_option maxRecDepth 100000 in
theorem wins_X3 : Cond.instantiable RX3 4 ∈ lw_gt := lw_in 78 (by decide +kernel)
set_option maxRecDepth 100000 in
theorem wm_X3_3 : Cond.methodLink RX3 3 objectInit ∈ lw_gt := lw_in 82 (by decide +kernel)
set_option maxRecDepth 100000 in
theorem wf_X3_9 : Cond.fieldLink RX3 9 (TX3 0).1 (TX3 0).2.1 (TX3 0).2.2.1 ∈ lw_gt := lw_in 83 (by decide +kernel)
set_option maxRecDepth 100000 in
theorem wf_X3_15 : Cond.fieldLink RX3 15 (TX3 1).1 (TX3 1).2.1 (TX3 1).2.2.1 ∈ lw_gt := lw_in 84 (by decide +kernel)
set_option maxRecDepth 100000 in
theorem wf_X3_18 : Cond.fieldLink RX3 18 (TX3 2).1 (TX3 2).2.1 (TX3 2).2.2.1 ∈ lw_gt := lw_in 85 (by decide +kernel)
set_option maxRecDepth 100000 in
theorem wf_X3_21 : Cond.fieldLink RX3 21 (TX3 3).1 (TX3 3).2.1 (TX3 3).2.2.1 ∈ lw_gt := lw_in 86 (by decide +kernel)
set_option maxRecDepth 100000 in
theorem wcl_X6_40 : Cond.classLink RX6 40 RX5 ∈ lw_gt := lw_in 96 (by decide +kernel)
set_option maxRecDepth 100000 in
theorem wins_X5 : Cond.instantiable RX5 6 ∈ lw_gt := lw_in 97 (by decide +kernel)
set_option maxRecDepth 100000 in
theorem wm_X6_42 : Cond.methodLink RX6 42 yX5_init ∈ lw_gt := lw_in 98 (by decide +kernel)
set_option maxRecDepth 100000 in
theorem wm_X5_3 : Cond.methodLink RX5 3 objectInit ∈ lw_gt := lw_in 101 (by decide +kernel)
set_option maxRecDepth 100000 in
theorem wf_X5_15 : Cond.fieldLink RX5 15 (TX5 0).1 (TX5 0).2.1 (TX5 0).2.2.1 ∈ lw_gt := lw_in 102 (by decide +kernel)
set_option maxRecDepth 100000 in
theorem wf_X5_19 : Cond.fieldLink RX5 19 (TX5 1).1 (TX5 1).2.1 (TX5 1).2.2.1 ∈ lw_gt := lw_in 103 (by decide +kernel)
set_option maxRecDepth 100000 in
theorem wf_X5_9 : Cond.fieldLink RX5 9 (TX5 2).1 (TX5 2).2.1 (TX5 2).2.2.1 ∈ lw_gt := lw_in 104 (by decide +kernel)
set_option maxRecDepth 100000 in
theorem wf_X5_22 : Cond.fieldLink RX5 22 (TX5 3).1 (TX5 3).2.1 (TX5 3).2.2.1 ∈ lw_gt := lw_in 105 (by decide +kernel)
set_option maxRecDepth 100000 in
theorem wf_X5_30 : Cond.fieldLink RX5 30 (TX5 4).1 (TX5 4).2.1 (TX5 4).2.2.1 ∈ lw_gt := lw_in 106 (by decide +kernel)
set_option maxRecDepth 100000 in
theorem wf_X5_26 : Cond.fieldLink RX5 26 (TX5 5).1 (TX5 5).2.1 (TX5 5).2.2.1 ∈ lw_gt := lw_in 107 (by decide +kernel)
set_option maxRecDepth 100000 in
theorem wcl_X6_49 : Cond.classLink RX6 49 RX1 ∈ lw_gt := lw_in 121 (by decide +kernel)
set_option maxRecDepth 100000 in
theorem wins_X1 : Cond.instantiable RX1 16 ∈ lw_gt := lw_in 122 (by decide +kernel)
set_option maxRecDepth 100000 in
theorem wm_X6_51 : Cond.methodLink RX6 51 yX1_init ∈ lw_gt := lw_in 123 (by decide +kernel)
set_option maxRecDepth 100000 in
theorem wm_X1_3 : Cond.methodLink RX1 3 objectInit ∈ lw_gt := lw_in 126 (by decide +kernel)
set_option maxRecDepth 100000 in
theorem wf_X1_15 : Cond.fieldLink RX1 15 (TX1 0).1 (TX1 0).2.1 (TX1 0).2.2.1 ∈ lw_gt := lw_in 127 (by decide +kernel)
set_option maxRecDepth 100000 in
theorem wf_X1_19 : Cond.fieldLink RX1 19 (TX1 1).1 (TX1 1).2.1 (TX1 1).2.2.1 ∈ lw_gt := lw_in 128 (by decide +kernel)
set_option maxRecDepth 100000 in
theorem wf_X1_22 : Cond.fieldLink RX1 22 (TX1 2).1 (TX1 2).2.1 (TX1 2).2.2.1 ∈ lw_gt := lw_in 129 (by decide +kernel)
set_option maxRecDepth 100000 in
theorem wf_X1_26 : Cond.fieldLink RX1 26 (TX1 3).1 (TX1 3).2.1 (TX1 3).2.2.1 ∈ lw_gt := lw_in 130 (by decide +kernel)
set_option maxRecDepth 100000 in
theorem wf_X1_88 : Cond.fieldLink RX1 88 (TX1 4).1 (TX1 4).2.1 (TX1 4).2.2.1 ∈ lw_gt := lw_in 131 (by decide +kernel)
set_option maxRecDepth 100000 in
theorem wf_X1_69 : Cond.fieldLink RX1 69 (TX1 5).1 (TX1 5).2.1 (TX1 5).2.2.1 ∈ lw_gt := lw_in 132 (by decide +kernel)
set_option maxRecDepth 100000 in
theorem wf_X1_38 : Cond.fieldLink RX1 38 (TX1 6).1 (TX1 6).2.1 (TX1 6).2.2.1 ∈ lw_gt := lw_in 133 (by decide +kernel)
set_option maxRecDepth 100000 in
theorem wf_X1_9 : Cond.fieldLink RX1 9 (TX1 7).1 (TX1 7).2.1 (TX1 7).2.2.1 ∈ lw_gt := lw_in 134 (by decide +kernel)
set_option maxRecDepth 100000 in
theorem wf_X1_91 : Cond.fieldLink RX1 91 (TX1 8).1 (TX1 8).2.1 (TX1 8).2.2.1 ∈ lw_gt := lw_in 135 (by decide +kernel)
set_option maxRecDepth 100000 in
theorem wf_X1_114 : Cond.fieldLink RX1 114 (TX1 9).1 (TX1 9).2.1 (TX1 9).2.2.1 ∈ lw_gt := lw_in 136 (by decide +kernel)
set_option maxRecDepth 100000 in
theorem wf_X1_94 : Cond.fieldLink RX1 94 (TX1 10).1 (TX1 10).2.1 (TX1 10).2.2.1 ∈ lw_gt := lw_in 137 (by decide +kernel)
set_option maxRecDepth 100000 in
theorem wf_X1_98 : Cond.fieldLink RX1 98 (TX1 11).1 (TX1 11).2.1 (TX1 11).2.2.1 ∈ lw_gt := lw_in 138 (by decide +kernel)
set_option maxRecDepth 100000 in
theorem wf_X1_169 : Cond.fieldLink RX1 169 (TX1 12).1 (TX1 12).2.1 (TX1 12).2.2.1 ∈ lw_gt := lw_in 139 (by decide +kernel)
set_option maxRecDepth 100000 in
theorem wf_X1_101 : Cond.fieldLink RX1 101 (TX1 13).1 (TX1 13).2.1 (TX1 13).2.2.1 ∈ lw_gt := lw_in 140 (by decide +kernel)
set_option maxRecDepth 100000 in
theorem wf_X1_104 : Cond.fieldLink RX1 104 (TX1 14).1 (TX1 14).2.1 (TX1 14).2.2.1 ∈ lw_gt := lw_in 141 (by decide +kernel)
set_option maxRecDepth 100000 in
theorem wf_X1_107 : Cond.fieldLink RX1 107 (TX1 15).1 (TX1 15).2.1 (TX1 15).2.2.1 ∈ lw_gt := lw_in 142 (by decide +kernel)
set_option maxRecDepth 100000 in
theorem wf_X6_14 : Cond.fieldLink RX6 14 (TX6 0).1 (TX6 0).2.1 (TX6 0).2.2.1 ∈ lw_gt := lw_in 176 (by decide +kernel)
set_option maxRecDepth 100000 in
theorem wf_X6_18 : Cond.fieldLink RX6 18 (TX6 1).1 (TX6 1).2.1 (TX6 1).2.2.1 ∈ lw_gt := lw_in 177 (by decide +kernel)
set_option maxRecDepth 100000 in
theorem wf_X6_45 : Cond.fieldLink RX6 45 (TX6 2).1 (TX6 2).2.1 (TX6 2).2.2.1 ∈ lw_gt := lw_in 178 (by decide +kernel)
set_option maxRecDepth 100000 in
theorem wf_X6_52 : Cond.fieldLink RX6 52 (TX6 3).1 (TX6 3).2.1 (TX6 3).2.2.1 ∈ lw_gt := lw_in 179 (by decide +kernel)
set_option maxRecDepth 100000 in
theorem wf_X6_21 : Cond.fieldLink RX6 21 (TX6 4).1 (TX6 4).2.1 (TX6 4).2.2.1 ∈ lw_gt := lw_in 180 (by decide +kernel)
set_option maxRecDepth 100000 in
theorem wf_X6_24 : Cond.fieldLink RX6 24 (TX6 5).1 (TX6 5).2.1 (TX6 5).2.2.1 ∈ lw_gt := lw_in 181 (by decide +kernel)
set_option maxRecDepth 100000 in
theorem wf_X6_30 : Cond.fieldLink RX6 30 (TX6 6).1 (TX6 6).2.1 (TX6 6).2.2.1 ∈ lw_gt := lw_in 182 (by decide +kernel)
set_option maxRecDepth 100000 in
theorem wf_X6_34 : Cond.fieldLink RX6 34 (TX6 7).1 (TX6 7).2.1 (TX6 7).2.2.1 ∈ lw_gt := lw_in 183 (by decide +kernel)
set_option maxRecDepth 100000 in
theorem wm_L_15 : Cond.methodLink RL 15 yX6_type ∈ lw_gt := lw_in 201 (by decide +kernel)
set_option maxRecDepth 100000 in
theorem wm_X6_56 : Cond.methodLink RX6 56 yX2_pushLowest ∈ lw_gt := lw_in 205 (by decide +kernel)
set_option maxRecDepth 100000 in
theorem wm_X2_23 : Cond.methodLink RX2 23 yX2_push ∈ lw_gt := lw_in 209 (by decide +kernel)
set_option maxRecDepth 100000 in
theorem wm_L_20 : Cond.methodLink RL 20 yX6_value ∈ lw_gt := lw_in 213 (by decide +kernel)
set_option maxRecDepth 100000 in
theorem wm_X6_60 : Cond.methodLink RX6 60 yX6_addTyped ∈ lw_gt := lw_in 217 (by decide +kernel)
set_option maxRecDepth 100000 in
theorem wm_X6_122 : Cond.methodLink RX6 122 yX0_accepts ∈ lw_gt := lw_in 221 (by decide +kernel)
set_option maxRecDepth 100000 in
theorem wm_X0_57 : Cond.methodLink RX0 57 yX0_innermost ∈ lw_gt := lw_in 225 (by decide +kernel)
set_option maxRecDepth 100000 in
theorem wm_X0_60 : Cond.methodLink RX0 60 yX0_isWhole ∈ lw_gt := lw_in 229 (by decide +kernel)
set_option maxRecDepth 100000 in
theorem wm_X6_83 : Cond.methodLink RX6 83 yX2_size ∈ lw_gt := lw_in 233 (by decide +kernel)
set_option maxRecDepth 100000 in
theorem wm_X6_126 : Cond.methodLink RX6 126 yX0_hasRoom ∈ lw_gt := lw_in 237 (by decide +kernel)
set_option maxRecDepth 100000 in
theorem wm_X0_44 : Cond.methodLink RX0 44 yX2_size ∈ lw_gt := lw_in 241 (by decide +kernel)
set_option maxRecDepth 100000 in
theorem wm_X0_64 : Cond.methodLink RX0 64 yX0_isContainer ∈ lw_gt := lw_in 242 (by decide +kernel)
set_option maxRecDepth 100000 in
theorem wm_X6_134 : Cond.methodLink RX6 134 yX4_isText ∈ lw_gt := lw_in 245 (by decide +kernel)
set_option maxRecDepth 100000 in
theorem wm_X4_13 : Cond.methodLink RX4 13 yX4_widthAt ∈ lw_gt := lw_in 248 (by decide +kernel)
set_option maxRecDepth 100000 in
theorem wm_X4_7 : Cond.methodLink RX4 7 yX2_at ∈ lw_gt := lw_in 251 (by decide +kernel)
set_option maxRecDepth 100000 in
theorem wm_X4_19 : Cond.methodLink RX4 19 yX4_isSecond ∈ lw_gt := lw_in 255 (by decide +kernel)
set_option maxRecDepth 100000 in
theorem wm_X4_23 : Cond.methodLink RX4 23 yX4_isBetween ∈ lw_gt := lw_in 258 (by decide +kernel)
set_option maxRecDepth 100000 in
theorem wm_X6_130 : Cond.methodLink RX6 130 yX0_put ∈ lw_gt := lw_in 261 (by decide +kernel)
set_option maxRecDepth 100000 in
theorem wm_X6_140 : Cond.methodLink RX6 140 yX0_extendBy ∈ lw_gt := lw_in 265 (by decide +kernel)
set_option maxRecDepth 100000 in
theorem wm_X0_71 : Cond.methodLink RX0 71 yX2_at ∈ lw_gt := lw_in 269 (by decide +kernel)
set_option maxRecDepth 100000 in
theorem wm_X0_75 : Cond.methodLink RX0 75 yX0_extend ∈ lw_gt := lw_in 270 (by decide +kernel)
set_option maxRecDepth 100000 in
theorem wm_X0_68 : Cond.methodLink RX0 68 yX2_push ∈ lw_gt := lw_in 274 (by decide +kernel)
set_option maxRecDepth 100000 in
theorem wm_X6_95 : Cond.methodLink RX6 95 yX2_clear ∈ lw_gt := lw_in 275 (by decide +kernel)
set_option maxRecDepth 100000 in
theorem wm_X6_68 : Cond.methodLink RX6 68 yX0_size ∈ lw_gt := lw_in 279 (by decide +kernel)
set_option maxRecDepth 100000 in
theorem wm_X6_64 : Cond.methodLink RX6 64 yX6_addPlain ∈ lw_gt := lw_in 283 (by decide +kernel)
set_option maxRecDepth 100000 in
theorem wm_L_25 : Cond.methodLink RL 25 yX6_integer ∈ lw_gt := lw_in 287 (by decide +kernel)
set_option maxRecDepth 100000 in
theorem wm_L_30 : Cond.methodLink RL 30 yX6_real ∈ lw_gt := lw_in 291 (by decide +kernel)
set_option maxRecDepth 100000 in
theorem wm_L_34 : Cond.methodLink RL 34 yX6_name ∈ lw_gt := lw_in 295 (by decide +kernel)
set_option maxRecDepth 100000 in
theorem wm_L_39 : Cond.methodLink RL 39 yX6_end ∈ lw_gt := lw_in 299 (by decide +kernel)
set_option maxRecDepth 100000 in
theorem wm_L_43 : Cond.methodLink RL 43 yX6_drop ∈ lw_gt := lw_in 303 (by decide +kernel)
set_option maxRecDepth 100000 in
theorem wm_X6_72 : Cond.methodLink RX6 72 yX0_clear ∈ lw_gt := lw_in 307 (by decide +kernel)
set_option maxRecDepth 100000 in
theorem wm_X0_54 : Cond.methodLink RX0 54 yX2_clear ∈ lw_gt := lw_in 311 (by decide +kernel)
set_option maxRecDepth 100000 in
theorem wm_L_47 : Cond.methodLink RL 47 yX6_write ∈ lw_gt := lw_in 312 (by decide +kernel)
set_option maxRecDepth 100000 in
theorem wm_X6_75 : Cond.methodLink RX6 75 yX0_isWhole ∈ lw_gt := lw_in 316 (by decide +kernel)
set_option maxRecDepth 100000 in
theorem wm_X6_79 : Cond.methodLink RX6 79 yX5_encode ∈ lw_gt := lw_in 317 (by decide +kernel)
set_option maxRecDepth 100000 in
theorem wm_X5_34 : Cond.methodLink RX5 34 yX3_clear ∈ lw_gt := lw_in 321 (by decide +kernel)
set_option maxRecDepth 100000 in
theorem wm_X3_25 : Cond.methodLink RX3 25 yJ7_fill_53178 ∈ lw_gt := lw_in 325 (by decide +kernel)
set_option maxRecDepth 100000 in
theorem wm_X5_39 : Cond.methodLink RX5 39 yX2_clear ∈ lw_gt := lw_in 328 (by decide +kernel)
set_option maxRecDepth 100000 in
theorem wm_X5_42 : Cond.methodLink RX5 42 yX2_push ∈ lw_gt := lw_in 329 (by decide +kernel)
set_option maxRecDepth 100000 in
theorem wm_X5_46 : Cond.methodLink RX5 46 yX0_size ∈ lw_gt := lw_in 330 (by decide +kernel)
set_option maxRecDepth 100000 in
theorem wm_X5_52 : Cond.methodLink RX5 52 yX2_isTooLong ∈ lw_gt := lw_in 331 (by decide +kernel)
set_option maxRecDepth 100000 in
theorem wm_X5_56 : Cond.methodLink RX5 56 yX5_encodeItem ∈ lw_gt := lw_in 335 (by decide +kernel)
set_option maxRecDepth 100000 in
theorem wm_X5_59 : Cond.methodLink RX5 59 yX0_kindOf ∈ lw_gt := lw_in 339 (by decide +kernel)
set_option maxRecDepth 100000 in
theorem wm_X0_78 : Cond.methodLink RX0 78 yX0_has ∈ lw_gt := lw_in 343 (by decide +kernel)
set_option maxRecDepth 100000 in
theorem wm_X5_63 : Cond.methodLink RX5 63 yX5_encodeText ∈ lw_gt := lw_in 347 (by decide +kernel)
set_option maxRecDepth 100000 in
theorem wm_X5_101 : Cond.methodLink RX5 101 yX0_lengthOf ∈ lw_gt := lw_in 351 (by decide +kernel)
set_option maxRecDepth 100000 in
theorem wm_X5_104 : Cond.methodLink RX5 104 yX0_isAscii ∈ lw_gt := lw_in 355 (by decide +kernel)
set_option maxRecDepth 100000 in
theorem wm_X0_85 : Cond.methodLink RX0 85 yX4_isAscii ∈ lw_gt := lw_in 359 (by decide +kernel)
set_option maxRecDepth 100000 in
theorem wm_X5_108 : Cond.methodLink RX5 108 yX3_takes ∈ lw_gt := lw_in 362 (by decide +kernel)
set_option maxRecDepth 100000 in
theorem wm_X5_111 : Cond.methodLink RX5 111 yX3_placeOf ∈ lw_gt := lw_in 365 (by decide +kernel)
set_option maxRecDepth 100000 in
theorem wm_X3_38 : Cond.methodLink RX3 38 yX0_mixOf ∈ lw_gt := lw_in 369 (by decide +kernel)
set_option maxRecDepth 100000 in
theorem wm_X3_44 : Cond.methodLink RX3 44 yX3_bucketOf ∈ lw_gt := lw_in 373 (by decide +kernel)
set_option maxRecDepth 100000 in
theorem wm_X3_47 : Cond.methodLink RX3 47 yX0_haveSameText ∈ lw_gt := lw_in 376 (by decide +kernel)
set_option maxRecDepth 100000 in
theorem wm_X5_115 : Cond.methodLink RX5 115 yX3_put ∈ lw_gt := lw_in 380 (by decide +kernel)
set_option maxRecDepth 100000 in
theorem wm_X3_35 : Cond.methodLink RX3 35 yX3_clear ∈ lw_gt := lw_in 384 (by decide +kernel)
set_option maxRecDepth 100000 in
theorem wm_X3_31 : Cond.methodLink RX3 31 yX3_canBeTold ∈ lw_gt := lw_in 385 (by decide +kernel)
set_option maxRecDepth 100000 in
theorem wm_X5_119 : Cond.methodLink RX5 119 yX5_encodePlace ∈ lw_gt := lw_in 388 (by decide +kernel)
set_option maxRecDepth 100000 in
theorem wm_X5_123 : Cond.methodLink RX5 123 yX5_encodeLong ∈ lw_gt := lw_in 392 (by decide +kernel)
set_option maxRecDepth 100000 in
theorem wm_X5_129 : Cond.methodLink RX5 129 yX0_copyText ∈ lw_gt := lw_in 396 (by decide +kernel)
set_option maxRecDepth 100000 in
theorem wm_X5_126 : Cond.methodLink RX5 126 yX5_encodeShort ∈ lw_gt := lw_in 400 (by decide +kernel)
set_option maxRecDepth 100000 in
theorem wm_X5_66 : Cond.methodLink RX5 66 yX5_encodeBytes ∈ lw_gt := lw_in 404 (by decide +kernel)
set_option maxRecDepth 100000 in
theorem wm_X5_98 : Cond.methodLink RX5 98 yX5_encodeCount ∈ lw_gt := lw_in 408 (by decide +kernel)
set_option maxRecDepth 100000 in
theorem wm_X5_133 : Cond.methodLink RX5 133 yX5_pushBitsOf ∈ lw_gt := lw_in 412 (by decide +kernel)
set_option maxRecDepth 100000 in
theorem wm_X5_136 : Cond.methodLink RX5 136 yX0_textByte ∈ lw_gt := lw_in 416 (by decide +kernel)
set_option maxRecDepth 100000 in
theorem wm_X5_69 : Cond.methodLink RX5 69 yX5_encodeOpening ∈ lw_gt := lw_in 420 (by decide +kernel)
set_option maxRecDepth 100000 in
theorem wm_X5_91 : Cond.methodLink RX5 91 yX0_depthOf ∈ lw_gt := lw_in 424 (by decide +kernel)
set_option maxRecDepth 100000 in
theorem wm_X5_73 : Cond.methodLink RX5 73 yX0_numberOf ∈ lw_gt := lw_in 428 (by decide +kernel)
set_option maxRecDepth 100000 in
theorem wm_X5_77 : Cond.methodLink RX5 77 yX5_encodeInteger ∈ lw_gt := lw_in 432 (by decide +kernel)
set_option maxRecDepth 100000 in
theorem wk_X5_94 : Cond.constantLong RX5 94 (-16 : Int64) ∈ lw_gt := lw_in 436 (by decide +kernel)
set_option maxRecDepth 100000 in
theorem wk_X5_96 : Cond.constantLong RX5 96 (15 : Int64) ∈ lw_gt := lw_in 437 (by decide +kernel)
set_option maxRecDepth 100000 in
theorem wm_X5_81 : Cond.methodLink RX5 81 yX5_encodeReal ∈ lw_gt := lw_in 438 (by decide +kernel)
set_option maxRecDepth 100000 in
theorem wm_X5_85 : Cond.methodLink RX5 85 yX5_encodeName ∈ lw_gt := lw_in 442 (by decide +kernel)
set_option maxRecDepth 100000 in
theorem wm_X5_88 : Cond.methodLink RX5 88 yX5_encodeEnd ∈ lw_gt := lw_in 446 (by decide +kernel)
set_option maxRecDepth 100000 in
theorem wm_L_51 : Cond.methodLink RL 51 yX6_written ∈ lw_gt := lw_in 450 (by decide +kernel)
set_option maxRecDepth 100000 in
theorem wm_X6_84 : Cond.methodLink RX6 84 yX2_at ∈ lw_gt := lw_in 454 (by decide +kernel)
set_option maxRecDepth 100000 in
theorem wm_L_55 : Cond.methodLink RL 55 yX6_load ∈ lw_gt := lw_in 455 (by decide +kernel)
set_option maxRecDepth 100000 in
theorem wm_L_59 : Cond.methodLink RL 59 yX6_loop ∈ lw_gt := lw_in 459 (by decide +kernel)
set_option maxRecDepth 100000 in
theorem wm_X6_87 : Cond.methodLink RX6 87 yX2_copyFrom ∈ lw_gt := lw_in 463 (by decide +kernel)
set_option maxRecDepth 100000 in
theorem wm_X2_27 : Cond.methodLink RX2 27 yX2_clear ∈ lw_gt := lw_in 467 (by decide +kernel)
set_option maxRecDepth 100000 in
theorem wm_X2_30 : Cond.methodLink RX2 30 yX2_at ∈ lw_gt := lw_in 468 (by decide +kernel)
set_option maxRecDepth 100000 in
theorem wm_L_63 : Cond.methodLink RL 63 yX6_read ∈ lw_gt := lw_in 469 (by decide +kernel)
set_option maxRecDepth 100000 in
theorem wm_X6_91 : Cond.methodLink RX6 91 yX1_decode ∈ lw_gt := lw_in 473 (by decide +kernel)
set_option maxRecDepth 100000 in
theorem wm_X1_30 : Cond.methodLink RX1 30 yX0_clear ∈ lw_gt := lw_in 477 (by decide +kernel)
set_option maxRecDepth 100000 in
theorem wm_X1_35 : Cond.methodLink RX1 35 yX3_clear ∈ lw_gt := lw_in 478 (by decide +kernel)
set_option maxRecDepth 100000 in
theorem wm_X1_41 : Cond.methodLink RX1 41 yX1_scanHead ∈ lw_gt := lw_in 479 (by decide +kernel)
set_option maxRecDepth 100000 in
theorem wm_X1_81 : Cond.methodLink RX1 81 yX2_at ∈ lw_gt := lw_in 483 (by decide +kernel)
set_option maxRecDepth 100000 in
theorem wm_X1_84 : Cond.methodLink RX1 84 yX1_isHeadByte ∈ lw_gt := lw_in 484 (by decide +kernel)
set_option maxRecDepth 100000 in
theorem wm_X1_77 : Cond.methodLink RX1 77 yX1_fail ∈ lw_gt := lw_in 487 (by decide +kernel)
set_option maxRecDepth 100000 in
theorem wm_X1_44 : Cond.methodLink RX1 44 yX0_isWhole ∈ lw_gt := lw_in 491 (by decide +kernel)
set_option maxRecDepth 100000 in
theorem wm_X1_48 : Cond.methodLink RX1 48 yX1_beginItem ∈ lw_gt := lw_in 492 (by decide +kernel)
set_option maxRecDepth 100000 in
theorem wm_X1_111 : Cond.methodLink RX1 111 yX1_take ∈ lw_gt := lw_in 496 (by decide +kernel)
set_option maxRecDepth 100000 in
theorem wm_X1_52 : Cond.methodLink RX1 52 yX0_accepts ∈ lw_gt := lw_in 500 (by decide +kernel)
set_option maxRecDepth 100000 in
theorem wm_X1_56 : Cond.methodLink RX1 56 yX1_scanName ∈ lw_gt := lw_in 501 (by decide +kernel)
set_option maxRecDepth 100000 in
theorem wm_X1_117 : Cond.methodLink RX1 117 yX1_scanShort ∈ lw_gt := lw_in 505 (by decide +kernel)
set_option maxRecDepth 100000 in
theorem wm_X1_172 : Cond.methodLink RX1 172 yX1_skip ∈ lw_gt := lw_in 509 (by decide +kernel)
set_option maxRecDepth 100000 in
theorem wm_X1_72 : Cond.methodLink RX1 72 yX2_size ∈ lw_gt := lw_in 513 (by decide +kernel)
set_option maxRecDepth 100000 in
theorem wm_X1_120 : Cond.methodLink RX1 120 yX1_scanFarPlace ∈ lw_gt := lw_in 514 (by decide +kernel)
set_option maxRecDepth 100000 in
theorem wm_X1_176 : Cond.methodLink RX1 176 yX1_isShared ∈ lw_gt := lw_in 518 (by decide +kernel)
set_option maxRecDepth 100000 in
theorem wm_X1_129 : Cond.methodLink RX1 129 yX1_refuseByte ∈ lw_gt := lw_in 522 (by decide +kernel)
set_option maxRecDepth 100000 in
theorem wm_X1_123 : Cond.methodLink RX1 123 yX1_scanLong ∈ lw_gt := lw_in 526 (by decide +kernel)
set_option maxRecDepth 100000 in
theorem wm_X1_126 : Cond.methodLink RX1 126 yX1_scanNearPlace ∈ lw_gt := lw_in 530 (by decide +kernel)
set_option maxRecDepth 100000 in
theorem wm_X1_60 : Cond.methodLink RX1 60 yX1_scanValue ∈ lw_gt := lw_in 534 (by decide +kernel)
set_option maxRecDepth 100000 in
theorem wm_X1_132 : Cond.methodLink RX1 132 yX1_scanInteger ∈ lw_gt := lw_in 538 (by decide +kernel)
set_option maxRecDepth 100000 in
theorem wm_X1_158 : Cond.methodLink RX1 158 yX1_takeCount ∈ lw_gt := lw_in 542 (by decide +kernel)
set_option maxRecDepth 100000 in
theorem wm_X1_165 : Cond.methodLink RX1 165 yX1_append ∈ lw_gt := lw_in 546 (by decide +kernel)
set_option maxRecDepth 100000 in
theorem wm_X1_151 : Cond.methodLink RX1 151 yX1_fromZigzag ∈ lw_gt := lw_in 550 (by decide +kernel)
set_option maxRecDepth 100000 in
theorem wm_X1_135 : Cond.methodLink RX1 135 yX1_scanReal ∈ lw_gt := lw_in 553 (by decide +kernel)
set_option maxRecDepth 100000 in
theorem wm_X1_162 : Cond.methodLink RX1 162 yX1_takeSeven ∈ lw_gt := lw_in 557 (by decide +kernel)
set_option maxRecDepth 100000 in
theorem wm_X1_139 : Cond.methodLink RX1 139 yX1_scanBits ∈ lw_gt := lw_in 561 (by decide +kernel)
set_option maxRecDepth 100000 in
theorem wm_X1_179 : Cond.methodLink RX1 179 yX1_sevensOf ∈ lw_gt := lw_in 565 (by decide +kernel)
set_option maxRecDepth 100000 in
theorem wk_X1_191 : Cond.constantLong RX1 191 (8 : Int64) ∈ lw_gt := lw_in 568 (by decide +kernel)
set_option maxRecDepth 100000 in
theorem wk_X1_193 : Cond.constantLong RX1 193 (6 : Int64) ∈ lw_gt := lw_in 569 (by decide +kernel)
set_option maxRecDepth 100000 in
theorem wk_X1_195 : Cond.constantLong RX1 195 (7 : Int64) ∈ lw_gt := lw_in 570 (by decide +kernel)
set_option maxRecDepth 100000 in
theorem wm_X1_182 : Cond.methodLink RX1 182 yJ9_min_f86c9 ∈ lw_gt := lw_in 571 (by decide +kernel)
set_option maxRecDepth 100000 in
theorem wm_X1_188 : Cond.methodLink RX1 188 yX1_bitsInLast ∈ lw_gt := lw_in 574 (by decide +kernel)
set_option maxRecDepth 100000 in
theorem wm_X1_142 : Cond.methodLink RX1 142 yX1_scanRaw ∈ lw_gt := lw_in 577 (by decide +kernel)
set_option maxRecDepth 100000 in
theorem wm_X1_145 : Cond.methodLink RX1 145 yX1_scanArrayEnd ∈ lw_gt := lw_in 581 (by decide +kernel)
set_option maxRecDepth 100000 in
theorem wm_X1_155 : Cond.methodLink RX1 155 yX0_innermost ∈ lw_gt := lw_in 585 (by decide +kernel)
set_option maxRecDepth 100000 in
theorem wm_X1_148 : Cond.methodLink RX1 148 yX1_scanBrief ∈ lw_gt := lw_in 586 (by decide +kernel)
set_option maxRecDepth 100000 in
theorem wm_X1_63 : Cond.methodLink RX1 63 yX1_judgeItem ∈ lw_gt := lw_in 590 (by decide +kernel)
set_option maxRecDepth 100000 in
theorem wm_X1_197 : Cond.methodLink RX1 197 yX4_isAscii ∈ lw_gt := lw_in 594 (by decide +kernel)
set_option maxRecDepth 100000 in
theorem wm_X1_203 : Cond.methodLink RX1 203 yX4_isText ∈ lw_gt := lw_in 595 (by decide +kernel)
set_option maxRecDepth 100000 in
theorem wm_X1_206 : Cond.methodLink RX1 206 yX1_table ∈ lw_gt := lw_in 596 (by decide +kernel)
set_option maxRecDepth 100000 in
theorem wm_X1_210 : Cond.methodLink RX1 210 yX3_itemAt ∈ lw_gt := lw_in 600 (by decide +kernel)
set_option maxRecDepth 100000 in
theorem wm_X1_213 : Cond.methodLink RX1 213 yX0_lengthOf ∈ lw_gt := lw_in 604 (by decide +kernel)
set_option maxRecDepth 100000 in
theorem wm_X1_216 : Cond.methodLink RX1 216 yX0_hasRoom ∈ lw_gt := lw_in 605 (by decide +kernel)
set_option maxRecDepth 100000 in
theorem wm_X1_66 : Cond.methodLink RX1 66 yX1_keepItem ∈ lw_gt := lw_in 606 (by decide +kernel)
set_option maxRecDepth 100000 in
theorem wm_X1_219 : Cond.methodLink RX1 219 yX0_put ∈ lw_gt := lw_in 610 (by decide +kernel)
set_option maxRecDepth 100000 in
theorem wm_X1_223 : Cond.methodLink RX1 223 yX1_keepText ∈ lw_gt := lw_in 611 (by decide +kernel)
set_option maxRecDepth 100000 in
theorem wm_X1_229 : Cond.methodLink RX1 229 yX0_extendBy ∈ lw_gt := lw_in 615 (by decide +kernel)
set_option maxRecDepth 100000 in
theorem wm_X1_236 : Cond.methodLink RX1 236 yX3_takes ∈ lw_gt := lw_in 616 (by decide +kernel)
set_option maxRecDepth 100000 in
theorem wm_X1_239 : Cond.methodLink RX1 239 yX0_size ∈ lw_gt := lw_in 617 (by decide +kernel)
set_option maxRecDepth 100000 in
theorem wm_X1_240 : Cond.methodLink RX1 240 yX3_put ∈ lw_gt := lw_in 618 (by decide +kernel)
set_option maxRecDepth 100000 in
theorem wm_X1_226 : Cond.methodLink RX1 226 yX0_extendByTextOf ∈ lw_gt := lw_in 619 (by decide +kernel)
set_option maxRecDepth 100000 in
theorem wm_X0_81 : Cond.methodLink RX0 81 yX0_extendBy ∈ lw_gt := lw_in 623 (by decide +kernel)
set_option maxRecDepth 100000 in
theorem wm_X1_233 : Cond.methodLink RX1 233 yX1_keepBits ∈ lw_gt := lw_in 624 (by decide +kernel)
set_option maxRecDepth 100000 in
theorem wm_X1_243 : Cond.methodLink RX1 243 yX0_extend ∈ lw_gt := lw_in 628 (by decide +kernel)
set_option maxRecDepth 100000 in
theorem wm_L_67 : Cond.methodLink RL 67 yX6_place ∈ lw_gt := lw_in 629 (by decide +kernel)
set_option maxRecDepth 100000 in
theorem wm_X6_96 : Cond.methodLink RX6 96 yX1_faultPlace ∈ lw_gt := lw_in 633 (by decide +kernel)
set_option maxRecDepth 100000 in
theorem wm_L_71 : Cond.methodLink RL 71 yX6_item ∈ lw_gt := lw_in 637 (by decide +kernel)
set_option maxRecDepth 100000 in
theorem wm_X6_99 : Cond.methodLink RX6 99 yX0_kindOf ∈ lw_gt := lw_in 641 (by decide +kernel)
set_option maxRecDepth 100000 in
theorem wm_X6_102 : Cond.methodLink RX6 102 yX0_lengthOf ∈ lw_gt := lw_in 642 (by decide +kernel)
set_option maxRecDepth 100000 in
theorem wm_X6_105 : Cond.methodLink RX6 105 yX0_depthOf ∈ lw_gt := lw_in 643 (by decide +kernel)
set_option maxRecDepth 100000 in
theorem wm_L_76 : Cond.methodLink RL 76 yX6_number ∈ lw_gt := lw_in 644 (by decide +kernel)
set_option maxRecDepth 100000 in
theorem wm_X6_108 : Cond.methodLink RX6 108 yX0_numberOf ∈ lw_gt := lw_in 648 (by decide +kernel)
set_option maxRecDepth 100000 in
theorem wm_L_81 : Cond.methodLink RL 81 yX6_byteOf ∈ lw_gt := lw_in 649 (by decide +kernel)
set_option maxRecDepth 100000 in
theorem wm_X6_112 : Cond.methodLink RX6 112 yX0_textByte ∈ lw_gt := lw_in 653 (by decide +kernel)
set_option maxRecDepth 100000 in
theorem wm_L_85 : Cond.methodLink RL 85 yX6_count ∈ lw_gt := lw_in 654 (by decide +kernel)
set_option maxRecDepth 100000 in
theorem wm_X6_116 : Cond.methodLink RX6 116 yX0_textBytes ∈ lw_gt := lw_in 658 (by decide +kernel)
set_option maxRecDepth 100000 in
theorem wm_L_89 : Cond.methodLink RL 89 yX6_check ∈ lw_gt := lw_in 662 (by decide +kernel)
set_option maxRecDepth 100000 in
theorem wm_X6_119 : Cond.methodLink RX6 119 yX0_isSound ∈ lw_gt := lw_in 666 (by decide +kernel)
set_option maxRecDepth 100000 in
theorem wm_X0_91 : Cond.methodLink RX0 91 yX0_depthOf ∈ lw_gt := lw_in 670 (by decide +kernel)
set_option maxRecDepth 100000 in
theorem wm_X0_94 : Cond.methodLink RX0 94 yX0_kindOf ∈ lw_gt := lw_in 671 (by decide +kernel)
set_option maxRecDepth 100000 in
theorem wcl_L_10 : Cond.classLink RL 10 RX7 ∈ lw_gt := lw_in 672 (by decide +kernel)
set_option maxRecDepth 100000 in
theorem wins_X7 : Cond.instantiable RX7 28 ∈ lw_gt := lw_in 673 (by decide +kernel)
set_option maxRecDepth 100000 in
theorem wm_L_12 : Cond.methodLink RL 12 yX7_init ∈ lw_gt := lw_in 674 (by decide +kernel)
set_option maxRecDepth 100000 in
theorem wm_X7_1 : Cond.methodLink RX7 1 objectInit ∈ lw_gt := lw_in 677 (by decide +kernel)
set_option maxRecDepth 100000 in
theorem wf_X7_7 : Cond.fieldLink RX7 7 (TX7 0).1 (TX7 0).2.1 (TX7 0).2.2.1 ∈ lw_gt := lw_in 678 (by decide +kernel)
set_option maxRecDepth 100000 in
theorem wf_X7_71 : Cond.fieldLink RX7 71 (TX7 1).1 (TX7 1).2.1 (TX7 1).2.2.1 ∈ lw_gt := lw_in 679 (by decide +kernel)
set_option maxRecDepth 100000 in
theorem wf_X7_13 : Cond.fieldLink RX7 13 (TX7 2).1 (TX7 2).2.1 (TX7 2).2.2.1 ∈ lw_gt := lw_in 680 (by decide +kernel)
set_option maxRecDepth 100000 in
theorem wf_X7_74 : Cond.fieldLink RX7 74 (TX7 3).1 (TX7 3).2.1 (TX7 3).2.2.1 ∈ lw_gt := lw_in 681 (by decide +kernel)
set_option maxRecDepth 100000 in
theorem wf_X7_16 : Cond.fieldLink RX7 16 (TX7 4).1 (TX7 4).2.1 (TX7 4).2.2.1 ∈ lw_gt := lw_in 682 (by decide +kernel)
set_option maxRecDepth 100000 in
theorem wf_X7_187 : Cond.fieldLink RX7 187 (TX7 5).1 (TX7 5).2.1 (TX7 5).2.2.1 ∈ lw_gt := lw_in 683 (by decide +kernel)
set_option maxRecDepth 100000 in
theorem wf_X7_19 : Cond.fieldLink RX7 19 (TX7 6).1 (TX7 6).2.1 (TX7 6).2.2.1 ∈ lw_gt := lw_in 684 (by decide +kernel)
set_option maxRecDepth 100000 in
theorem wf_X7_127 : Cond.fieldLink RX7 127 (TX7 7).1 (TX7 7).2.1 (TX7 7).2.2.1 ∈ lw_gt := lw_in 685 (by decide +kernel)
set_option maxRecDepth 100000 in
theorem wf_X7_22 : Cond.fieldLink RX7 22 (TX7 8).1 (TX7 8).2.1 (TX7 8).2.2.1 ∈ lw_gt := lw_in 686 (by decide +kernel)
set_option maxRecDepth 100000 in
theorem wf_X7_26 : Cond.fieldLink RX7 26 (TX7 9).1 (TX7 9).2.1 (TX7 9).2.2.1 ∈ lw_gt := lw_in 687 (by decide +kernel)
set_option maxRecDepth 100000 in
theorem wf_X7_30 : Cond.fieldLink RX7 30 (TX7 10).1 (TX7 10).2.1 (TX7 10).2.2.1 ∈ lw_gt := lw_in 688 (by decide +kernel)
set_option maxRecDepth 100000 in
theorem wf_X7_33 : Cond.fieldLink RX7 33 (TX7 11).1 (TX7 11).2.1 (TX7 11).2.2.1 ∈ lw_gt := lw_in 689 (by decide +kernel)
set_option maxRecDepth 100000 in
theorem wf_X7_36 : Cond.fieldLink RX7 36 (TX7 12).1 (TX7 12).2.1 (TX7 12).2.2.1 ∈ lw_gt := lw_in 690 (by decide +kernel)
set_option maxRecDepth 100000 in
theorem wf_X7_39 : Cond.fieldLink RX7 39 (TX7 13).1 (TX7 13).2.1 (TX7 13).2.2.1 ∈ lw_gt := lw_in 691 (by decide +kernel)
set_option maxRecDepth 100000 in
theorem wf_X7_42 : Cond.fieldLink RX7 42 (TX7 14).1 (TX7 14).2.1 (TX7 14).2.2.1 ∈ lw_gt := lw_in 692 (by decide +kernel)
set_option maxRecDepth 100000 in
theorem wf_X7_45 : Cond.fieldLink RX7 45 (TX7 15).1 (TX7 15).2.1 (TX7 15).2.2.1 ∈ lw_gt := lw_in 693 (by decide +kernel)
set_option maxRecDepth 100000 in
theorem wf_X7_48 : Cond.fieldLink RX7 48 (TX7 16).1 (TX7 16).2.1 (TX7 16).2.2.1 ∈ lw_gt := lw_in 694 (by decide +kernel)
set_option maxRecDepth 100000 in
theorem wf_X7_52 : Cond.fieldLink RX7 52 (TX7 17).1 (TX7 17).2.1 (TX7 17).2.2.1 ∈ lw_gt := lw_in 695 (by decide +kernel)
set_option maxRecDepth 100000 in
theorem wf_X7_55 : Cond.fieldLink RX7 55 (TX7 18).1 (TX7 18).2.1 (TX7 18).2.2.1 ∈ lw_gt := lw_in 696 (by decide +kernel)
set_option maxRecDepth 100000 in
theorem wf_X7_58 : Cond.fieldLink RX7 58 (TX7 19).1 (TX7 19).2.1 (TX7 19).2.2.1 ∈ lw_gt := lw_in 697 (by decide +kernel)
set_option maxRecDepth 100000 in
theorem wf_X7_61 : Cond.fieldLink RX7 61 (TX7 20).1 (TX7 20).2.1 (TX7 20).2.2.1 ∈ lw_gt := lw_in 698 (by decide +kernel)
set_option maxRecDepth 100000 in
theorem wf_X7_193 : Cond.fieldLink RX7 193 (TX7 21).1 (TX7 21).2.1 (TX7 21).2.2.1 ∈ lw_gt := lw_in 699 (by decide +kernel)
set_option maxRecDepth 100000 in
theorem wf_X7_219 : Cond.fieldLink RX7 219 (TX7 22).1 (TX7 22).2.1 (TX7 22).2.2.1 ∈ lw_gt := lw_in 700 (by decide +kernel)
set_option maxRecDepth 100000 in
theorem wf_X7_190 : Cond.fieldLink RX7 190 (TX7 23).1 (TX7 23).2.1 (TX7 23).2.2.1 ∈ lw_gt := lw_in 701 (by decide +kernel)
set_option maxRecDepth 100000 in
theorem wf_X7_64 : Cond.fieldLink RX7 64 (TX7 24).1 (TX7 24).2.1 (TX7 24).2.2.1 ∈ lw_gt := lw_in 702 (by decide +kernel)
set_option maxRecDepth 100000 in
theorem wf_X7_203 : Cond.fieldLink RX7 203 (TX7 25).1 (TX7 25).2.1 (TX7 25).2.2.1 ∈ lw_gt := lw_in 703 (by decide +kernel)
set_option maxRecDepth 100000 in
theorem wf_X7_68 : Cond.fieldLink RX7 68 (TX7 26).1 (TX7 26).2.1 (TX7 26).2.2.1 ∈ lw_gt := lw_in 704 (by decide +kernel)
set_option maxRecDepth 100000 in
theorem wf_X7_206 : Cond.fieldLink RX7 206 (TX7 27).1 (TX7 27).2.1 (TX7 27).2.2.1 ∈ lw_gt := lw_in 705 (by decide +kernel)
set_option maxRecDepth 100000 in
theorem war_boolean : Cond.arrayClass .boolean ∈ lw_gt := lw_in 763 (by decide +kernel)
set_option maxRecDepth 100000 in
theorem wm_L_19 : Cond.methodLink RL 19 yX7_type ∈ lw_gt := lw_in 764 (by decide +kernel)
set_option maxRecDepth 100000 in
theorem wm_L_58 : Cond.methodLink RL 58 yX7_load ∈ lw_gt := lw_in 768 (by decide +kernel)
set_option maxRecDepth 100000 in
theorem wm_L_24 : Cond.methodLink RL 24 yX7_value ∈ lw_gt := lw_in 772 (by decide +kernel)
set_option maxRecDepth 100000 in
theorem wm_X7_99 : Cond.methodLink RX7 99 yX7_takesValue ∈ lw_gt := lw_in 776 (by decide +kernel)
set_option maxRecDepth 100000 in
theorem wm_X7_93 : Cond.methodLink RX7 93 yX7_isWhole ∈ lw_gt := lw_in 780 (by decide +kernel)
set_option maxRecDepth 100000 in
theorem wm_X7_96 : Cond.methodLink RX7 96 yX7_wantsName ∈ lw_gt := lw_in 784 (by decide +kernel)
set_option maxRecDepth 100000 in
theorem wm_X7_89 : Cond.methodLink RX7 89 yX7_inObject ∈ lw_gt := lw_in 788 (by decide +kernel)
set_option maxRecDepth 100000 in
theorem wm_X7_85 : Cond.methodLink RX7 85 yX7_top ∈ lw_gt := lw_in 792 (by decide +kernel)
set_option maxRecDepth 100000 in
theorem wm_X7_103 : Cond.methodLink RX7 103 yX7_mayBe ∈ lw_gt := lw_in 796 (by decide +kernel)
set_option maxRecDepth 100000 in
theorem wm_X7_107 : Cond.methodLink RX7 107 yX7_offer ∈ lw_gt := lw_in 800 (by decide +kernel)
set_option maxRecDepth 100000 in
theorem wm_X7_110 : Cond.methodLink RX7 110 yX7_isText ∈ lw_gt := lw_in 804 (by decide +kernel)
set_option maxRecDepth 100000 in
theorem wm_X7_81 : Cond.methodLink RX7 81 yX7_character ∈ lw_gt := lw_in 808 (by decide +kernel)
set_option maxRecDepth 100000 in
theorem wk_X7_77 : Cond.constant RX7 77 (65536 : Int32) ∈ lw_gt := lw_in 812 (by decide +kernel)
set_option maxRecDepth 100000 in
theorem wk_X7_78 : Cond.constant RX7 78 (1114111 : Int32) ∈ lw_gt := lw_in 813 (by decide +kernel)
set_option maxRecDepth 100000 in
theorem wk_X7_79 : Cond.constant RX7 79 (55296 : Int32) ∈ lw_gt := lw_in 814 (by decide +kernel)
set_option maxRecDepth 100000 in
theorem wk_X7_80 : Cond.constant RX7 80 (57343 : Int32) ∈ lw_gt := lw_in 815 (by decide +kernel)
set_option maxRecDepth 100000 in
theorem wm_X7_114 : Cond.methodLink RX7 114 yX7_add ∈ lw_gt := lw_in 816 (by decide +kernel)
set_option maxRecDepth 100000 in
theorem wm_L_29 : Cond.methodLink RL 29 yX7_integer ∈ lw_gt := lw_in 820 (by decide +kernel)
set_option maxRecDepth 100000 in
theorem wm_L_33 : Cond.methodLink RL 33 yX7_real ∈ lw_gt := lw_in 824 (by decide +kernel)
set_option maxRecDepth 100000 in
theorem wk_X7_118 : Cond.constantLong RX7 118 (4294967296 : Int64) ∈ lw_gt := lw_in 828 (by decide +kernel)
set_option maxRecDepth 100000 in
theorem wm_L_38 : Cond.methodLink RL 38 yX7_name ∈ lw_gt := lw_in 829 (by decide +kernel)
set_option maxRecDepth 100000 in
theorem wm_L_42 : Cond.methodLink RL 42 yX7_end ∈ lw_gt := lw_in 833 (by decide +kernel)
set_option maxRecDepth 100000 in
theorem wm_L_46 : Cond.methodLink RL 46 yX7_drop ∈ lw_gt := lw_in 837 (by decide +kernel)
set_option maxRecDepth 100000 in
theorem wm_X7_120 : Cond.methodLink RX7 120 yX7_clear ∈ lw_gt := lw_in 841 (by decide +kernel)
set_option maxRecDepth 100000 in
theorem wm_L_50 : Cond.methodLink RL 50 yX7_write ∈ lw_gt := lw_in 845 (by decide +kernel)
set_option maxRecDepth 100000 in
theorem wm_X7_130 : Cond.methodLink RX7 130 yX7_put ∈ lw_gt := lw_in 849 (by decide +kernel)
set_option maxRecDepth 100000 in
theorem wm_X7_183 : Cond.methodLink RX7 183 yX7_putItem ∈ lw_gt := lw_in 853 (by decide +kernel)
set_option maxRecDepth 100000 in
theorem wm_X7_166 : Cond.methodLink RX7 166 yX7_putText ∈ lw_gt := lw_in 857 (by decide +kernel)
set_option maxRecDepth 100000 in
theorem wm_X7_153 : Cond.methodLink RX7 153 yX7_find ∈ lw_gt := lw_in 861 (by decide +kernel)
set_option maxRecDepth 100000 in
theorem wm_X7_124 : Cond.methodLink RX7 124 yX7_isSame ∈ lw_gt := lw_in 865 (by decide +kernel)
set_option maxRecDepth 100000 in
theorem wm_X7_156 : Cond.methodLink RX7 156 yX7_isAscii ∈ lw_gt := lw_in 869 (by decide +kernel)
set_option maxRecDepth 100000 in
theorem wm_X7_159 : Cond.methodLink RX7 159 yX7_putBytes ∈ lw_gt := lw_in 873 (by decide +kernel)
set_option maxRecDepth 100000 in
theorem wm_X7_162 : Cond.methodLink RX7 162 yX7_keep ∈ lw_gt := lw_in 877 (by decide +kernel)
set_option maxRecDepth 100000 in
theorem wm_X7_149 : Cond.methodLink RX7 149 yX7_putCount ∈ lw_gt := lw_in 881 (by decide +kernel)
set_option maxRecDepth 100000 in
theorem wk_X7_133 : Cond.constantLong RX7 133 (127 : Int64) ∈ lw_gt := lw_in 885 (by decide +kernel)
set_option maxRecDepth 100000 in
theorem wk_X7_135 : Cond.constantLong RX7 135 (63 : Int64) ∈ lw_gt := lw_in 886 (by decide +kernel)
set_option maxRecDepth 100000 in
theorem wm_X7_170 : Cond.methodLink RX7 170 yX7_putSeven ∈ lw_gt := lw_in 887 (by decide +kernel)
set_option maxRecDepth 100000 in
theorem wm_X7_173 : Cond.methodLink RX7 173 yX7_putInteger ∈ lw_gt := lw_in 891 (by decide +kernel)
set_option maxRecDepth 100000 in
theorem wk_X7_137 : Cond.constantLong RX7 137 (2 : Int64) ∈ lw_gt := lw_in 895 (by decide +kernel)
set_option maxRecDepth 100000 in
theorem wk_X7_139 : Cond.constantLong RX7 139 (-2 : Int64) ∈ lw_gt := lw_in 896 (by decide +kernel)
set_option maxRecDepth 100000 in
theorem wk_X7_141 : Cond.constantLong RX7 141 (-16 : Int64) ∈ lw_gt := lw_in 897 (by decide +kernel)
set_option maxRecDepth 100000 in
theorem wk_X7_143 : Cond.constantLong RX7 143 (15 : Int64) ∈ lw_gt := lw_in 898 (by decide +kernel)
set_option maxRecDepth 100000 in
theorem wk_X7_145 : Cond.constantLong RX7 145 (-2147483648 : Int64) ∈ lw_gt := lw_in 899 (by decide +kernel)
set_option maxRecDepth 100000 in
theorem wk_X7_147 : Cond.constantLong RX7 147 (2147483647 : Int64) ∈ lw_gt := lw_in 900 (by decide +kernel)
set_option maxRecDepth 100000 in
theorem wm_X7_176 : Cond.methodLink RX7 176 yX7_putReal ∈ lw_gt := lw_in 901 (by decide +kernel)
set_option maxRecDepth 100000 in
theorem wm_X7_180 : Cond.methodLink RX7 180 yX7_putName ∈ lw_gt := lw_in 905 (by decide +kernel)
set_option maxRecDepth 100000 in
theorem wm_L_54 : Cond.methodLink RL 54 yX7_written ∈ lw_gt := lw_in 909 (by decide +kernel)
set_option maxRecDepth 100000 in
theorem wm_L_62 : Cond.methodLink RL 62 yX7_loop ∈ lw_gt := lw_in 913 (by decide +kernel)
set_option maxRecDepth 100000 in
theorem wm_L_66 : Cond.methodLink RL 66 yX7_read ∈ lw_gt := lw_in 917 (by decide +kernel)
set_option maxRecDepth 100000 in
theorem wm_X7_259 : Cond.methodLink RX7 259 yX7_readHead ∈ lw_gt := lw_in 921 (by decide +kernel)
set_option maxRecDepth 100000 in
theorem wm_X7_196 : Cond.methodLink RX7 196 yX7_fail ∈ lw_gt := lw_in 925 (by decide +kernel)
set_option maxRecDepth 100000 in
theorem wm_X7_199 : Cond.methodLink RX7 199 yX7_next ∈ lw_gt := lw_in 929 (by decide +kernel)
set_option maxRecDepth 100000 in
theorem wm_X7_262 : Cond.methodLink RX7 262 yX7_readName ∈ lw_gt := lw_in 933 (by decide +kernel)
set_option maxRecDepth 100000 in
theorem wm_X7_222 : Cond.methodLink RX7 222 yX7_addGot ∈ lw_gt := lw_in 937 (by decide +kernel)
set_option maxRecDepth 100000 in
theorem wm_X7_216 : Cond.methodLink RX7 216 yX7_addTaken ∈ lw_gt := lw_in 941 (by decide +kernel)
set_option maxRecDepth 100000 in
theorem wm_X7_226 : Cond.methodLink RX7 226 yX7_addPlaced ∈ lw_gt := lw_in 945 (by decide +kernel)
set_option maxRecDepth 100000 in
theorem wm_X7_209 : Cond.methodLink RX7 209 yX7_take ∈ lw_gt := lw_in 949 (by decide +kernel)
set_option maxRecDepth 100000 in
theorem wm_X7_229 : Cond.methodLink RX7 229 yX7_takeLong ∈ lw_gt := lw_in 953 (by decide +kernel)
set_option maxRecDepth 100000 in
theorem wm_X7_232 : Cond.methodLink RX7 232 yX7_takeMany ∈ lw_gt := lw_in 957 (by decide +kernel)
set_option maxRecDepth 100000 in
theorem wm_X7_235 : Cond.methodLink RX7 235 yX7_addPlain ∈ lw_gt := lw_in 961 (by decide +kernel)
set_option maxRecDepth 100000 in
theorem wm_X7_265 : Cond.methodLink RX7 265 yX7_readValue ∈ lw_gt := lw_in 965 (by decide +kernel)
set_option maxRecDepth 100000 in
theorem wm_X7_239 : Cond.methodLink RX7 239 yX7_readCount ∈ lw_gt := lw_in 969 (by decide +kernel)
set_option maxRecDepth 100000 in
theorem wm_X7_243 : Cond.methodLink RX7 243 yX7_unzigzag ∈ lw_gt := lw_in 973 (by decide +kernel)
set_option maxRecDepth 100000 in
theorem wm_X7_247 : Cond.methodLink RX7 247 yX7_readReal ∈ lw_gt := lw_in 976 (by decide +kernel)
set_option maxRecDepth 100000 in
theorem wm_X7_250 : Cond.methodLink RX7 250 yX7_takeSeven ∈ lw_gt := lw_in 980 (by decide +kernel)
set_option maxRecDepth 100000 in
theorem wk_X7_212 : Cond.constantLong RX7 212 (8 : Int64) ∈ lw_gt := lw_in 984 (by decide +kernel)
set_option maxRecDepth 100000 in
theorem wk_X7_214 : Cond.constantLong RX7 214 (7 : Int64) ∈ lw_gt := lw_in 985 (by decide +kernel)
set_option maxRecDepth 100000 in
theorem wk_X7_253 : Cond.constantLong RX7 253 (2000000000 : Int64) ∈ lw_gt := lw_in 986 (by decide +kernel)
set_option maxRecDepth 100000 in
theorem wk_X7_255 : Cond.constant RX7 255 (2000000000 : Int32) ∈ lw_gt := lw_in 987 (by decide +kernel)
set_option maxRecDepth 100000 in
theorem wm_X7_256 : Cond.methodLink RX7 256 yX7_readText ∈ lw_gt := lw_in 988 (by decide +kernel)
set_option maxRecDepth 100000 in
theorem wm_X7_268 : Cond.methodLink RX7 268 yX7_holdRead ∈ lw_gt := lw_in 992 (by decide +kernel)
set_option maxRecDepth 100000 in
theorem wm_L_70 : Cond.methodLink RL 70 yX7_place ∈ lw_gt := lw_in 996 (by decide +kernel)
set_option maxRecDepth 100000 in
theorem wm_L_75 : Cond.methodLink RL 75 yX7_item ∈ lw_gt := lw_in 1000 (by decide +kernel)
set_option maxRecDepth 100000 in
theorem wm_X7_271 : Cond.methodLink RX7 271 yX7_isItem ∈ lw_gt := lw_in 1004 (by decide +kernel)
set_option maxRecDepth 100000 in
theorem wm_L_80 : Cond.methodLink RL 80 yX7_number ∈ lw_gt := lw_in 1008 (by decide +kernel)
set_option maxRecDepth 100000 in
theorem wm_L_84 : Cond.methodLink RL 84 yX7_byteOf ∈ lw_gt := lw_in 1012 (by decide +kernel)
set_option maxRecDepth 100000 in
theorem wm_L_88 : Cond.methodLink RL 88 yX7_count ∈ lw_gt := lw_in 1016 (by decide +kernel)
set_option maxRecDepth 100000 in
theorem wm_L_92 : Cond.methodLink RL 92 yX7_check ∈ lw_gt := lw_in 1020 (by decide +kernel)
set_option maxRecDepth 100000 in
theorem wk_L_13 : Cond.constantLong RL 13 (4294967295 : Int64) ∈ lw_gt := lw_in 1024 (by decide +kernel)
def lw_nest : List Cond := [(Jvm.Cond.methodLinkNest "GrinCoder" (29 : Nat) ({ cls := "GrinCoder$Document", name := "<init>", desc := "()V" } : Jvm.MethodName) "GrinCoder"), (Jvm.Cond.methodLinkNest "GrinCoder" (39 : Nat) ({ cls := "GrinCoder$Table", name := "<init>", desc := "()V" } : Jvm.MethodName) "GrinCoder")]
theorem lw_nest_in : ∀ w ∈ lw_nest, w ∈ lw_tbl := List.forall_mem_cons.mpr ⟨List.mem_append_right _ (List.mem_of_getElem? (i := 38) (by decide +kernel)), List.forall_mem_cons.mpr ⟨List.mem_append_right _ (List.mem_of_getElem? (i := 79) (by decide +kernel)), (fun _ h => absurd h List.not_mem_nil)⟩⟩
theorem lw_nest_is : ∀ w ∈ lw_nest, ∃ a i x h, w = Cond.methodLinkNest a i x h := List.forall_mem_cons.mpr ⟨⟨_, _, _, _, rfl⟩, List.forall_mem_cons.mpr ⟨⟨_, _, _, _, rfl⟩, (fun _ h => absurd h List.not_mem_nil)⟩⟩
set_option maxRecDepth 100000 in
theorem wm_X6_29 : Cond.methodLinkNest RX6 29 yX0_init "GrinCoder" ∈ lw_nest := List.mem_of_getElem? (i := 0) (by decide +kernel)
set_option maxRecDepth 100000 in
theorem wm_X6_39 : Cond.methodLinkNest RX6 39 yX3_init "GrinCoder" ∈ lw_nest := List.mem_of_getElem? (i := 1) (by decide +kernel)
